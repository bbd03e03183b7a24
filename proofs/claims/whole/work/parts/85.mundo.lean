/-! the reference: taking back, folk, weather, ruling, marks -/
def unS (s : cT) (m j : Nat) : cT := (s.nf, sgt s.fs s.rs m 8, s.rn, sgt s.fs s.rs m 9, sgt s.fs s.rs m 10, s.tc, s.ru, s.sc, (fun p => if p < j then sgt s.fs s.rs m p else s.mk p), s.sl, s.tx, s.fs, (m : Int), s.rs)
theorem unS_s {s : cT} {m j : Nat} {v : Int} (hv : sgt s.fs s.rs m j = v) : setM (unS s m j) (hc_u (unS s m j).mk j v) = unS s m (j + 1) := by
  have z : hc_u (fun p => if p < j then sgt s.fs s.rs m p else s.mk p) j v = fun p => if p < j + 1 then sgt s.fs s.rs m p else s.mk p := by
    funext p
    unfold hc_u
    by_cases c : p = j
    · rw [if_pos c, if_pos (by omega), c, hv]
    · rw [if_neg c]
      show (if p < j then sgt s.fs s.rs m p else s.mk p) = _
      by_cases c2 : p < j
      · rw [if_pos c2, if_pos (by omega)]
      · rw [if_neg c2, if_neg (by omega)]
  show setM (unS s m j) (hc_u (fun p => if p < j then sgt s.fs s.rs m p else s.mk p) j v) = _
  rw [z]
  rfl
theorem unS_8 {s : cT} {m : Nat} (hm : s.ct = (m : Int) + 1) : unS s m 8 = tbS s := by
  unfold unS tbS
  rw [show Int.toNat s.ct - 1 = m by omega, show s.ct - 1 = (m : Int) by omega]
set_option maxRecDepth 100000 in
theorem l_mundo {d : Nat} {h0 : hc_H} {Q : List hc_V → hc_H → Prop} {m : Nat} {s : Nat → Int} {cs : cT} {e : dX} (hm : m < 30) (k : ∀ h2 A2, h2.2.2 72 = ar 456 A2 → RA A2 (unS cs m 8) e → Fr [72] h0 h2 → Q [xI (m : Int)] h2) : ∀ (n j : Nat) (A : Nat → Int) (h : hc_H), (j ≤ 8 ∧ 8 < j + n) → h.2.2 71 = mo s → h.2.2 72 = ar 456 A → RA A (unS cs m j) e → SGR (fun q => A (96 + 12 * m + q)) (sgt cs.fs cs.rs m) → Fr [72] h0 h → hc_wp d mX10_undo 81 [xR 71, xI ((96 + 12 * m : Nat) : Int), xI (j : Int)] [] h Q := by
  intro n
  induction n with
  | zero =>
    intro j A h hj
    exact absurd hj (by omega)
  | succ n ih =>
    intro j A h hj H71 H72 H R HF
    refine wp_go rfl rfl ?_
    refine wp_go rfl rfl ?_
    refine e_cge rfl (fun c84 => ?_) (fun c84 => ?_)
    · skip
      refine wp_go rfl rfl ?_
      refine e_get rfl H71 rfl rfl ?_
      refine wp_go rfl rfl ?_
      refine e_aldE (p := 7) rfl H72 rfl ⟨by omega, by omega⟩ ?_
      rw [show (A 7) = (m : Int) from H.1.2.2.2.2.2.2.2.1]
      refine wp_ret rfl rfl ?_
      rw [show j = 8 by omega] at H
      exact k h A H72 H HF
    · skip
      have R1 : ((j : Int) < A (96 + 12 * m) → A (96 + 12 * m + (4 + j)) = sgt cs.fs cs.rs m j) ∧ (A (96 + 12 * m) ≤ (j : Int) → sgt cs.fs cs.rs m j = 0) := R.2.2.2.2 j (by omega)
      have R0 : 0 ≤ A (96 + 12 * m) ∧ A (96 + 12 * m) ≤ 8 := R.1
      refine wp_go rfl rfl ?_
      refine e_get rfl H71 rfl rfl ?_
      refine wp_go rfl rfl ?_
      refine wp_go rfl rfl ?_
      refine wp_go rfl rfl ?_
      refine e_imul rfl (by omega) ?_
      refine e_iadd rfl (by omega) ?_
      refine wp_go rfl rfl ?_
      refine wp_go rfl rfl ?_
      refine e_get rfl H71 rfl rfl ?_
      refine wp_go rfl rfl ?_
      refine e_aldE (p := 96 + 12 * m) rfl H72 rfl ⟨by omega, by omega⟩ ?_
      refine e_cge rfl (fun c104 => ?_) (fun c104 => ?_)
      · skip
        refine wp_go rfl rfl ?_
        refine e_iastE (p := 12 + 2 * j) rfl H72 ⟨by omega, by omega⟩ ?_
        refine e_inc (L' := [xR 71, xI ((96 + 12 * m : Nat) : Int), xI ((j : Int) + 1)]) rfl rfl (by omega) rfl ?_
        refine wp_go rfl rfl ?_
        have hv : sgt cs.fs cs.rs m j = 0 := R1.2 (by omega)
        have RA2 := RA.um (v := 0) H (show j < 8 by omega)
        rw [unS_s hv] at RA2
        exact ih (j + 1) _ _ (by omega) H71 rfl RA2 (R.eq (fun q hq => hu_n (by omega)) (fun _ _ => rfl)) (HF.wr rfl)
      · skip
        refine wp_go rfl rfl ?_
        refine e_get rfl H71 rfl rfl ?_
        refine wp_go rfl rfl ?_
        refine wp_go rfl rfl ?_
        refine e_iadd rfl (by omega) ?_
        refine wp_go rfl rfl ?_
        refine e_iadd rfl (by omega) ?_
        refine e_aldE (p := 96 + 12 * m + (4 + j)) rfl H72 rfl ⟨by omega, by omega⟩ ?_
        rw [R1.1 (by omega)]
        refine wp_go rfl rfl ?_
        refine e_iastE (p := 12 + 2 * j) rfl H72 ⟨by omega, by omega⟩ ?_
        refine e_inc (L' := [xR 71, xI ((96 + 12 * m : Nat) : Int), xI ((j : Int) + 1)]) rfl rfl (by omega) rfl ?_
        refine wp_go rfl rfl ?_
        have hv : sgt cs.fs cs.rs m j = (sgt cs.fs cs.rs m j) := rfl
        have RA2 := RA.um (v := (sgt cs.fs cs.rs m j)) H (show j < 8 by omega)
        rw [unS_s hv] at RA2
        exact ih (j + 1) _ _ (by omega) H71 rfl RA2 (R.eq (fun q hq => hu_n (by omega)) (fun _ _ => rfl)) (HF.wr rfl)
set_option maxRecDepth 100000 in
theorem c_mundo {d : Nat} {h : hc_H} {Q : List hc_V → hc_H → Prop} {s A : Nat → Int} {cs : cT} {e : dX} (hs : cOK cs) (H71 : h.2.2 71 = mo s) (H72 : h.2.2 72 = ar 456 A) (H : RA A cs e) (kf : cs.ct = 0 → Q [xI (-1)] h) (kt : 0 < cs.ct → ∀ h2 A2, h2.2.2 72 = ar 456 A2 → RA A2 (tbS cs) e → Fr [72] h h2 → Q [xI (cs.ct - 1)] h2) : hc_wp d mX10_undo 0 [xR 71, none, none] [] h Q := by
  have hft : 0 ≤ cs.ct ∧ cs.ct ≤ 30 := hs.2.2.2.2.2.2.2.2.2
  refine wp_go rfl rfl ?_
  refine e_get rfl H71 rfl rfl ?_
  refine wp_go rfl rfl ?_
  refine e_aldE (p := 7) rfl H72 rfl ⟨by omega, by omega⟩ ?_
  rw [show (A 7) = cs.ct from H.1.2.2.2.2.2.2.2.1]
  refine e_ifne rfl (fun c7 => ?_) (fun c7 => ?_)
  · skip
    obtain ⟨m, hm⟩ : ∃ m : Nat, cs.ct = (m : Int) + 1 := ⟨Int.toNat cs.ct - 1, by omega⟩
    have R := H.2.2.2.2 m (by omega)
    refine wp_go rfl rfl ?_
    refine e_get rfl H71 rfl rfl ?_
    refine wp_go rfl rfl ?_
    refine wp_go rfl rfl ?_
    refine e_aldE (p := 7) rfl H72 rfl ⟨by omega, by omega⟩ ?_
    rw [show (A 7) = ((m : Int) + 1) from (H.1.2.2.2.2.2.2.2.1).trans hm]
    refine wp_go rfl rfl ?_
    refine e_isub rfl (by omega) ?_
    rw [show (m : Int) + 1 - 1 = (m : Int) by omega]
    refine e_iastE (p := 7) rfl H72 ⟨by omega, by omega⟩ ?_
    refine wp_go rfl rfl ?_
    refine wp_go rfl rfl ?_
    refine wp_go rfl rfl ?_
    refine e_get rfl H71 rfl rfl ?_
    refine wp_go rfl rfl ?_
    refine e_aldE (p := 7) rfl rfl rfl ⟨by omega, by omega⟩ ?_
    rw [show ((hc_u A 7 (m : Int)) 7) = (m : Int) from hu_s]
    refine e_imul rfl (by omega) ?_
    refine e_iadd rfl (by omega) ?_
    rw [show (96 : Int) + (12 * (m : Int)) = ((96 + 12 * m : Nat) : Int) by omega]
    refine e_istn (L' := [xR 71, xI ((96 + 12 * m : Nat) : Int), none]) rfl rfl rfl ?_
    refine wp_go rfl rfl ?_
    refine e_get rfl H71 rfl rfl ?_
    refine wp_go rfl rfl ?_
    refine wp_go rfl rfl ?_
    refine e_get rfl H71 rfl rfl ?_
    refine wp_go rfl rfl ?_
    refine wp_go rfl rfl ?_
    refine e_iadd rfl (by omega) ?_
    refine e_aldE (p := 96 + 12 * m + 1) rfl rfl rfl ⟨by omega, by omega⟩ ?_
    rw [show ((hc_u A 7 (m : Int)) (96 + 12 * m + 1)) = (sgt cs.fs cs.rs m 8) from ((hu_n (by omega)).trans R.2.1)]
    refine e_iastE (p := 1) rfl rfl ⟨by omega, by omega⟩ ?_
    refine wp_go rfl rfl ?_
    refine e_get rfl H71 rfl rfl ?_
    refine wp_go rfl rfl ?_
    refine wp_go rfl rfl ?_
    refine e_get rfl H71 rfl rfl ?_
    refine wp_go rfl rfl ?_
    refine wp_go rfl rfl ?_
    refine e_iadd rfl (by omega) ?_
    refine e_aldE (p := 96 + 12 * m + 2) rfl rfl rfl ⟨by omega, by omega⟩ ?_
    rw [show ((hc_u (hc_u A 7 (m : Int)) 1 (sgt cs.fs cs.rs m 8)) (96 + 12 * m + 2)) = (sgt cs.fs cs.rs m 9) from ((hu_n (by omega)).trans ((hu_n (by omega)).trans R.2.2.1))]
    refine e_iastE (p := 3) rfl rfl ⟨by omega, by omega⟩ ?_
    refine wp_go rfl rfl ?_
    refine e_get rfl H71 rfl rfl ?_
    refine wp_go rfl rfl ?_
    refine wp_go rfl rfl ?_
    refine e_get rfl H71 rfl rfl ?_
    refine wp_go rfl rfl ?_
    refine wp_go rfl rfl ?_
    refine e_iadd rfl (by omega) ?_
    refine e_aldE (p := 96 + 12 * m + 3) rfl rfl rfl ⟨by omega, by omega⟩ ?_
    rw [show ((hc_u (hc_u (hc_u A 7 (m : Int)) 1 (sgt cs.fs cs.rs m 8)) 3 (sgt cs.fs cs.rs m 9)) (96 + 12 * m + 3)) = (sgt cs.fs cs.rs m 10) from ((hu_n (by omega)).trans ((hu_n (by omega)).trans ((hu_n (by omega)).trans R.2.2.2.1)))]
    refine e_iastE (p := 4) rfl rfl ⟨by omega, by omega⟩ ?_
    refine wp_go rfl rfl ?_
    refine e_istn (L' := [xR 71, xI ((96 + 12 * m : Nat) : Int), xI 0]) rfl rfl rfl ?_
    have ltm : ∀ i : Nat, (i : Int) < (m : Int) → (i : Int) < cs.ct := fun i hi => by omega
    have RA4 : RA (hc_u (hc_u (hc_u (hc_u A 7 (m : Int)) 1 (sgt cs.fs cs.rs m 8)) 3 (sgt cs.fs cs.rs m 9)) 4 (sgt cs.fs cs.rs m 10)) (unS cs m 0) e := by
      have z : (fun p : Nat => if p < 0 then sgt cs.fs cs.rs m p else cs.mk p) = cs.mk := funext (fun p => if_neg (by omega))
      unfold unS
      rw [z]
      exact ⟨⟨((hu_n (by omega)).trans ((hu_n (by omega)).trans ((hu_n (by omega)).trans ((hu_n (by omega)).trans H.1.1)))), ((hu_n (by omega)).trans ((hu_n (by omega)).trans (hu_s.trans rfl))), ((hu_n (by omega)).trans ((hu_n (by omega)).trans ((hu_n (by omega)).trans ((hu_n (by omega)).trans H.1.2.2.1)))), ((hu_n (by omega)).trans (hu_s.trans rfl)), (hu_s.trans rfl), ((hu_n (by omega)).trans ((hu_n (by omega)).trans ((hu_n (by omega)).trans ((hu_n (by omega)).trans H.1.2.2.2.2.2.1)))), ((hu_n (by omega)).trans ((hu_n (by omega)).trans ((hu_n (by omega)).trans ((hu_n (by omega)).trans H.1.2.2.2.2.2.2.1)))), ((hu_n (by omega)).trans ((hu_n (by omega)).trans ((hu_n (by omega)).trans (hu_s.trans rfl)))), ((hu_n (by omega)).trans ((hu_n (by omega)).trans ((hu_n (by omega)).trans ((hu_n (by omega)).trans H.1.2.2.2.2.2.2.2.2.1)))), ((hu_n (by omega)).trans ((hu_n (by omega)).trans ((hu_n (by omega)).trans ((hu_n (by omega)).trans H.1.2.2.2.2.2.2.2.2.2))))⟩, fun p hp => ⟨((hu_n (by omega)).trans ((hu_n (by omega)).trans ((hu_n (by omega)).trans ((hu_n (by omega)).trans (H.2.1 p hp).1)))), ((hu_n (by omega)).trans ((hu_n (by omega)).trans ((hu_n (by omega)).trans ((hu_n (by omega)).trans (H.2.1 p hp).2))))⟩, fun k hk => ⟨((hu_n (by omega)).trans ((hu_n (by omega)).trans ((hu_n (by omega)).trans ((hu_n (by omega)).trans (H.2.2.1 k hk).1)))), ((hu_n (by omega)).trans ((hu_n (by omega)).trans ((hu_n (by omega)).trans ((hu_n (by omega)).trans (H.2.2.1 k hk).2.1)))), ((hu_n (by omega)).trans ((hu_n (by omega)).trans ((hu_n (by omega)).trans ((hu_n (by omega)).trans (H.2.2.1 k hk).2.2))))⟩, fun k hk => ((hu_n (by omega)).trans ((hu_n (by omega)).trans ((hu_n (by omega)).trans ((hu_n (by omega)).trans (H.2.2.2.1 k hk))))), fun i hi => SGR.eq (H.2.2.2.2 i (ltm i hi)) (fun q hq => ((hu_n (by omega)).trans ((hu_n (by omega)).trans ((hu_n (by omega)).trans ((hu_n (by omega)).trans rfl))))) (fun _ _ => rfl)⟩
    refine l_mundo (m := m) (cs := cs) (e := e) (h0 := h) (by omega) (fun h2 A2 a b c => ?_) 9 0 _ _ (by omega) H71 rfl RA4 (R.eq (fun q hq => ((hu_n (by omega)).trans ((hu_n (by omega)).trans ((hu_n (by omega)).trans ((hu_n (by omega)).trans rfl))))) (fun _ _ => rfl)) ((((Fr.rf.wr rfl).wr rfl).wr rfl).wr rfl)
    have := kt (by omega) h2 A2 a (by rw [← unS_8 hm]; exact b) c
    rw [show cs.ct - 1 = (m : Int) by omega] at this
    exact this
  · skip
    refine wp_go rfl rfl ?_
    refine wp_ret rfl rfl ?_
    exact kf (by omega)
