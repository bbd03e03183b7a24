/-! a text played: what both sides answer; the reference -/
def plS (ft fr : Option ef) (rw_ : Nat → Int) : Nat → Nat → cT → Int × cT
  | 0, _, s => (-1, s)
  | g + 1, k, s => match clS ft fr s (rw_ (5 * k)) (rw_ (5 * k + 1)) (rw_ (5 * k + 2)) (rw_ (5 * k + 3)) (rw_ (5 * k + 4)) with
    | none => ((k : Int), s)
    | some s2 => plS ft fr rw_ g (k + 1) s2
theorem plS_n {ft fr : Option ef} {rw_ : Nat → Int} {nc k : Nat} {s : cT} (hk : k < nc) (h : clS ft fr s (rw_ (5 * k)) (rw_ (5 * k + 1)) (rw_ (5 * k + 2)) (rw_ (5 * k + 3)) (rw_ (5 * k + 4)) = none) : plS ft fr rw_ (nc - k) k s = ((k : Int), s) := by
  rw [show nc - k = (nc - (k + 1)) + 1 by omega, plS, h]
theorem plS_c {ft fr : Option ef} {rw_ : Nat → Int} {nc k : Nat} {s s2 : cT} (hk : k < nc) (h : clS ft fr s (rw_ (5 * k)) (rw_ (5 * k + 1)) (rw_ (5 * k + 2)) (rw_ (5 * k + 3)) (rw_ (5 * k + 4)) = some s2) : plS ft fr rw_ (nc - k) k s = plS ft fr rw_ (nc - (k + 1)) (k + 1) s2 := by
  rw [show nc - k = (nc - (k + 1)) + 1 by omega, plS, h]
theorem plS_e {ft fr : Option ef} {rw_ : Nat → Int} {nc k : Nat} {s : cT} (hk : nc ≤ k) : plS ft fr rw_ (nc - k) k s = (-1, s) := by
  rw [show nc - k = 0 by omega, plS]
def TRX (T : Nat → Int) (t nc : Nat) (rw_ : Nat → Int) : Prop := T (680 * t) = (nc : Int) ∧ nc ≤ 24 ∧ ∀ k, k < nc → TR1 T (680 * t + 1 + 3 * k) (rw_ (5 * k)) (rw_ (5 * k + 1)) (rw_ (5 * k + 2)) (rw_ (5 * k + 3)) (rw_ (5 * k + 4))
set_option maxRecDepth 100000 in
theorem l_mplay {d : Nat} {h0 : hc_H} {Q : List hc_V → hc_H → Prop} {t nc : Nat} {ru : Int} {rw_ : Nat → Int} {ft fr : Option ef} {s T : Nat → Int} {e : dX} {r : Int × cT} (ht : t ≤ 3) (hT : MTX T ru ft fr) (hR : TRX T t nc rw_) (k : ∀ h2 A2, h2.2.2 72 = ar 456 A2 → RA A2 r.2 e → MVN h2 → Fr [72, 77, 78, 79] h0 h2 → Q [xI r.1] h2) : ∀ (n j : Nat) (cs : cT) (A : Nat → Int) (h : hc_H), (j ≤ nc ∧ nc < j + n) → plS ft fr rw_ (nc - j) j cs = r → cOK cs → cs.ru = ru → RA A cs e → h.2.2 71 = mo s → h.2.2 72 = ar 456 A → h.2.2 74 = ar 2720 T → MVN h → Fr [72, 77, 78, 79] h0 h → hc_wp (d + 9) mX10_played 21 [xR 71, xI (t : Int), xI (j : Int)] [] h Q := by
  have hnc := hR.2.1
  intro n
  induction n with
  | zero =>
    intro j cs A h hj
    exact absurd hj (by omega)
  | succ n ih =>
    intro j cs A h hj hr hs hru H H71 H72 H74 hN HF
    refine wp_go rfl rfl ?_
    refine wp_go rfl rfl ?_
    refine e_get rfl H71 rfl rfl ?_
    refine wp_go rfl rfl ?_
    refine wp_go rfl rfl ?_
    refine e_imul rfl (by omega) ?_
    refine e_aldE (p := 680 * t) rfl H74 rfl ⟨by omega, by omega⟩ ?_
    rw [hR.1]
    refine e_cge rfl (fun c32 => ?_) (fun c32 => ?_)
    · skip
      refine wp_go rfl rfl ?_
      refine wp_ret rfl rfl ?_
      rw [← hr, plS_e (by omega)] at k
      exact k h A H72 H hN HF
    · skip
      refine wp_go rfl rfl ?_
      refine wp_go rfl rfl ?_
      refine wp_go rfl rfl ?_
      refine e_imul rfl (by omega) ?_
      refine wp_go rfl rfl ?_
      refine e_iadd rfl (by omega) ?_
      refine wp_go rfl rfl ?_
      refine wp_go rfl rfl ?_
      refine e_imul rfl (by omega) ?_
      refine e_iadd rfl (by omega) ?_
      rw [show (680 : Int) * (t : Int) + 1 + 3 * (j : Int) = ((680 * t + 1 + 3 * j : Nat) : Int) by omega]
      refine wp_cv rfl rfl rfl H71 rfl rfl rfl ?_
      refine c_isp (d := d) (x := 680 * t + 1 + 3 * j) hs H H71 H72 H74 hN (by rw [hru]; exact hT) (by omega) (hR.2.2 j (by omega)) (fun hno => ?_) (fun s2 hs2 h2 A2 B72 RA2 N2 F2 => ?_)
      · skip
        refine wp_go rfl rfl ?_
        refine wp_go rfl rfl ?_
        refine wp_ret rfl rfl ?_
        rw [← hr, plS_n (by omega) hno] at k
        exact k h A H72 H hN HF
      · skip
        refine wp_go rfl rfl ?_
        refine e_inc (L' := [xR 71, xI (t : Int), xI ((j : Int) + 1)]) rfl rfl (by omega) rfl ?_
        refine wp_go rfl rfl ?_
        have hok := cl_ok hs hs2
        exact ih (j + 1) s2 _ _ (by omega) ((plS_c (by omega) hs2).symm.trans hr) hok.1 (hok.2.1.1.trans hru) RA2 ((F2.2.2 71 rfl).trans H71) B72 ((F2.2.2 74 rfl).trans H74) N2 (HF.tr F2 (fun _ z => z))
set_option maxRecDepth 100000 in
theorem c_mplayed {d : Nat} {h : hc_H} {Q : List hc_V → hc_H → Prop} {v : Int} {ft fr : Option ef} {s A T : Nat → Int} {cs : cT} {e : dX} (hs : cOK cs) (H : RA A cs e) (H71 : h.2.2 71 = mo s) (H72 : h.2.2 72 = ar 456 A) (H74 : h.2.2 74 = ar 2720 T) (hN : MVN h) (hT : MTX T cs.ru ft fr) (htc : 0 ≤ cs.tc ∧ cs.tc ≤ 4) (kx : (v < 0 ∨ cs.tc ≤ v) → Q [xI (-2)] h) (kt : ∀ t : Nat, v = (t : Int) → (t : Int) < cs.tc → ∃ (nc : Nat) (rw_ : Nat → Int), TRX T t nc rw_ ∧ ∀ h2 A2, h2.2.2 72 = ar 456 A2 → RA A2 (plS ft fr rw_ nc 0 cs).2 e → MVN h2 → Fr [72, 77, 78, 79] h h2 → Q [xI (plS ft fr rw_ nc 0 cs).1] h2) : hc_wp (d + 9) mX10_played 0 [xR 71, xI v, none] [] h Q := by
  refine wp_go rfl rfl ?_
  refine wp_go rfl rfl ?_
  refine wp_go rfl rfl ?_
  refine e_get rfl H71 rfl rfl ?_
  refine wp_go rfl rfl ?_
  refine e_aldE (p := 5) rfl H72 rfl ⟨by omega, by omega⟩ ?_
  rw [show A 5 = cs.tc from H.1.2.2.2.2.2.1]
  refine wp_go rfl rfl ?_
  refine e_isub rfl (by omega) ?_
  refine wp_call rfl rfl rfl rfl ?_
  refine c_isIn  (fun q10 => ?_) (fun q10 => ?_)
  · skip
    refine wp_go rfl rfl ?_
    refine wp_go rfl rfl ?_
    refine e_istn (L' := [xR 71, xI v, xI 0]) rfl rfl rfl ?_
    obtain ⟨t, hv⟩ : ∃ t : Nat, v = (t : Int) := ⟨Int.toNat v, by omega⟩
    subst hv
    obtain ⟨nc, rw_, hR, k⟩ := kt t rfl (by omega)
    exact l_mplay (by omega) hT hR k (nc + 1) 0 cs A h (by omega) rfl hs rfl H H71 H72 H74 hN Fr.rf
  · skip
    refine wp_go rfl rfl ?_
    refine wp_go rfl rfl ?_
    refine wp_ret rfl rfl ?_
    exact kx (by omega)
