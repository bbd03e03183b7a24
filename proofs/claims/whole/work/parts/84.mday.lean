/-! the reference: days -/
def dyJ (fr : Option ef) (w : Int) (s : cT) (j : Nat) : cT := (s.nf, s.dy + 1, s.rn, (s.x * 163 + 97) % 30097, w, s.tc, s.ru, s.sc, ddm fr s.mk s.sl (s.dy + 1) w j, s.sl, s.tx, kfs s.fs s.ct, kct s.ct, krw s.fs s.ct s.mk s.rs s.dy s.x s.wt)
set_option maxRecDepth 100000 in
theorem l_pone {d : Nat} {h0 : hc_H} {Q : List hc_V → hc_H → Prop} {wt : Int} {ft fr : Option ef} {s T : Nat → Int} {cs : cT} {e : dX} (hs : cOK cs) (hT : MTX T cs.ru ft fr) (hwt : wt = 0 ∨ wt = 1) (k : ∀ h2 A2, h2.2.2 72 = ar 456 A2 → RA A2 (dyJ fr wt cs cs.nf) e → MVN h2 → Fr [72, 77, 78, 79] h0 h2 → Q [xI (smk cs.mk cs.nf - smk (ddm fr cs.mk cs.sl (cs.dy + 1) wt cs.nf) cs.nf)] h2) : ∀ (n j : Nat) (al : Int) (l3 : hc_V) (A : Nat → Int) (h : hc_H), (j ≤ cs.nf ∧ cs.nf < j + n) → al = smk cs.mk j - smk (ddm fr cs.mk cs.sl (cs.dy + 1) wt cs.nf) j → RA A (dyJ fr wt cs j) e → h.2.2 71 = mo s → h.2.2 72 = ar 456 A → h.2.2 74 = ar 2720 T → MVN h → Fr [72, 77, 78, 79] h0 h → hc_wp (d + 6) mX10_passOne 70 [xR 71, xI al, xI (j : Int), l3] [] h Q := by
  intro n
  have hn8 := hs.1
  induction n with
  | zero =>
    intro j al l3 A h hj
    exact absurd hj (by omega)
  | succ n ih =>
    intro j al l3 A h hj hal H H71 H72 H74 hN HF
    refine wp_go rfl rfl ?_
    refine wp_go rfl rfl ?_
    refine e_get rfl H71 rfl rfl ?_
    refine wp_go rfl rfl ?_
    refine e_aldE (p := 0) rfl H72 rfl ⟨by omega, by omega⟩ ?_
    rw [show A 0 = (cs.nf : Int) from H.1.1]
    refine e_cge rfl (fun c77 => ?_) (fun c77 => ?_)
    · skip
      refine wp_go rfl rfl ?_
      refine wp_ret rfl rfl ?_
      rw [show j = cs.nf by omega] at H hal
      rw [hal]
      exact k h A H72 H hN HF
    · skip
      have hmj := hs.mkb j (by omega)
      have hAj : A (12 + 2 * j) = cs.mk j := (H.mkv j (by omega)).trans ddm_at
      have hrb := rbv_bd (fr := fr) (who := (j : Int)) (has := cs.mk j) (day := cs.dy + 1) (sl := cs.sl j) (wet := wt) hmj.1
      have hsa := smk_bd (mk := cs.mk) j (fun q hq => hs.mkb q (by omega))
      have hsb := smk_bd (mk := ddm fr cs.mk cs.sl (cs.dy + 1) wt cs.nf) j (fun q hq => (MK.dd hs.2.1).1 q (by omega))
      refine wp_go rfl rfl ?_
      refine wp_go rfl rfl ?_
      refine e_get rfl H71 rfl rfl ?_
      refine wp_go rfl rfl ?_
      refine e_aldE (p := 6) rfl H72 rfl ⟨by omega, by omega⟩ ?_
      rw [show A 6 = cs.ru from H.1.2.2.2.2.2.2.1]
      refine wp_go rfl rfl ?_
      refine wp_go rfl rfl ?_
      refine wp_go rfl rfl ?_
      refine wp_cv rfl rfl rfl H71 rfl rfl rfl ?_
      refine c_marksOf (p := j) H71 H72 (by omega) ?_
      rw [hAj]
      refine wp_go rfl rfl ?_
      refine e_get rfl H71 rfl rfl ?_
      refine wp_go rfl rfl ?_
      refine e_aldE (p := 1) rfl H72 rfl ⟨by omega, by omega⟩ ?_
      rw [show A 1 = (cs.dy + 1) from H.1.2.1]
      refine wp_go rfl rfl ?_
      refine e_get rfl H71 rfl rfl ?_
      refine wp_go rfl rfl ?_
      refine e_aldE (p := 4) rfl H72 rfl ⟨by omega, by omega⟩ ?_
      rw [show A 4 = wt from H.1.2.2.2.2.1]
      refine wp_cv rfl rfl rfl H71 rfl rfl rfl ?_
      refine c_rubsOf (p := j) (sl := cs.sl j) H71 H72 H74 hN hT (by omega) (H.2.1 j (by omega)).2 (hs.2.2.1 j (by omega)) hmj (by have := hs.2.2.2.1; omega) hwt (fun h2 N2 F2 => ?_)
      refine e_istn (L' := [xR 71, xI al, xI (j : Int), xI (rbv fr (j : Int) (cs.mk j) (cs.dy + 1) (cs.sl j) wt)]) rfl rfl rfl ?_
      refine wp_go rfl rfl ?_
      refine e_get rfl ((F2.2.2 71 rfl).trans H71) rfl rfl ?_
      refine wp_go rfl rfl ?_
      refine wp_go rfl rfl ?_
      refine wp_go rfl rfl ?_
      refine e_imul rfl (by omega) ?_
      refine e_iadd rfl (by omega) ?_
      refine wp_go rfl rfl ?_
      refine e_aldE (p := 12 + 2 * j) rfl ((F2.2.2 72 rfl).trans H72) rfl ⟨by omega, by omega⟩ ?_
      rw [hAj]
      refine wp_go rfl rfl ?_
      refine e_isub rfl (by omega) ?_
      refine e_iastE (p := 12 + 2 * j) rfl ((F2.2.2 72 rfl).trans H72) ⟨by omega, by omega⟩ ?_
      refine wp_go rfl rfl ?_
      refine wp_go rfl rfl ?_
      refine e_iadd rfl (by omega) ?_
      refine e_istn (L' := [xR 71, xI (al + (rbv fr (j : Int) (cs.mk j) (cs.dy + 1) (cs.sl j) wt)), xI (j : Int), xI (rbv fr (j : Int) (cs.mk j) (cs.dy + 1) (cs.sl j) wt)]) rfl rfl rfl ?_
      refine e_inc (L' := [xR 71, xI (al + (rbv fr (j : Int) (cs.mk j) (cs.dy + 1) (cs.sl j) wt)), xI ((j : Int) + 1), xI (rbv fr (j : Int) (cs.mk j) (cs.dy + 1) (cs.sl j) wt)]) rfl rfl (by omega) rfl ?_
      refine wp_go rfl rfl ?_
      have RA2 : RA (hc_u A (12 + 2 * j) (cs.mk j - rbv fr (j : Int) (cs.mk j) (cs.dy + 1) (cs.sl j) wt)) (dyJ fr wt cs (j + 1)) e := by
        have := RA.um (p := j) (v := cs.mk j - rbv fr (j : Int) (cs.mk j) (cs.dy + 1) (cs.sl j) wt) H (by omega)
        have e9 : setM (dyJ fr wt cs j) (hc_u (dyJ fr wt cs j).mk j (cs.mk j - rbv fr (j : Int) (cs.mk j) (cs.dy + 1) (cs.sl j) wt)) = dyJ fr wt cs (j + 1) := by
          show setM (dyJ fr wt cs j) (hc_u (ddm fr cs.mk cs.sl (cs.dy + 1) wt j) j _) = _
          rw [ddm_s]
          rfl
        rw [e9] at this
        exact this
      refine ih (j + 1) _ _ _ _ (by omega) ?_ RA2 ((F2.2.2 71 rfl).trans H71) rfl ((F2.2.2 74 rfl).trans H74) N2.w72 ((HF.tr (Fr.mono F2 (nin_sub rfl)) (fun _ z => z)).wr rfl)
      rw [hal, smk, smk, show ddm fr cs.mk cs.sl (cs.dy + 1) wt cs.nf j = cs.mk j - rbv fr (j : Int) (cs.mk j) (cs.dy + 1) (cs.sl j) wt from if_pos (by omega)]
      omega
set_option maxRecDepth 100000 in
theorem l_pone42 {d : Nat} {h h0 : hc_H} {Q : List hc_V → hc_H → Prop} {wt : Int} {ft fr : Option ef} {s A1 T : Nat → Int} {cs : cT} {e : dX} (hs : cOK cs) (RA1 : RA A1 (kepS cs cs.mk) e) (H71 : h.2.2 71 = mo s) (H72 : h.2.2 72 = ar 456 (hc_u A1 1 (cs.dy + 1))) (H74 : h.2.2 74 = ar 2720 T) (hN : MVN h) (hT : MTX T cs.ru ft fr) (HF : Fr [72, 77, 78, 79] h0 h) (hwt : wt = 0 ∨ wt = 1) (k : ∀ h2 A2, h2.2.2 72 = ar 456 A2 → RA A2 (dyJ fr wt cs cs.nf) e → MVN h2 → Fr [72, 77, 78, 79] h0 h2 → Q [xI (smk cs.mk cs.nf - smk (ddm fr cs.mk cs.sl (cs.dy + 1) wt cs.nf) cs.nf)] h2) : hc_wp (d + 6) mX10_passOne 42 [xR 71, none, none, none] [xI wt, xI 4, xR 72] h Q := by
  have hxb := hs.2.2.2.2.2.1
  refine e_iastE (p := 4) rfl H72 ⟨by omega, by omega⟩ ?_
  refine wp_go rfl rfl ?_
  refine e_get rfl H71 rfl rfl ?_
  refine wp_go rfl rfl ?_
  refine wp_go rfl rfl ?_
  refine e_get rfl H71 rfl rfl ?_
  refine wp_go rfl rfl ?_
  refine e_aldE (p := 3) rfl rfl rfl ⟨by omega, by omega⟩ ?_
  rw [show hc_u (hc_u A1 1 (cs.dy + 1)) 4 wt 3 = cs.x from (hu_n (by omega)).trans ((hu_n (by omega)).trans RA1.1.2.2.2.1)]
  refine wp_go rfl rfl ?_
  refine e_imul rfl (by omega) ?_
  refine wp_go rfl rfl ?_
  refine e_iadd rfl (by omega) ?_
  refine wp_go rfl rfl ?_
  refine e_irem rfl (by omega) ?_
  rw [Int.tmod_eq_emod_of_nonneg (by omega)]
  refine e_iastE (p := 3) rfl rfl ⟨by omega, by omega⟩ ?_
  refine wp_go rfl rfl ?_
  refine e_istn (L' := [xR 71, xI 0, none, none]) rfl rfl rfl ?_
  refine wp_go rfl rfl ?_
  refine e_istn (L' := [xR 71, xI 0, xI 0, none]) rfl rfl rfl ?_
  have RA4 : RA (hc_u (hc_u (hc_u A1 1 (cs.dy + 1)) 4 wt) 3 ((cs.x * 163 + 97) % 30097)) (dyJ fr wt cs 0) e := by
    have z : ddm fr cs.mk cs.sl (cs.dy + 1) wt 0 = cs.mk := ddm_0
    unfold dyJ
    rw [z]
    exact ⟨⟨((hu_n (by omega)).trans ((hu_n (by omega)).trans ((hu_n (by omega)).trans RA1.1.1))), ((hu_n (by omega)).trans ((hu_n (by omega)).trans (hu_s.trans rfl))), ((hu_n (by omega)).trans ((hu_n (by omega)).trans ((hu_n (by omega)).trans RA1.1.2.2.1))), (hu_s.trans rfl), ((hu_n (by omega)).trans (hu_s.trans rfl)), ((hu_n (by omega)).trans ((hu_n (by omega)).trans ((hu_n (by omega)).trans RA1.1.2.2.2.2.2.1))), ((hu_n (by omega)).trans ((hu_n (by omega)).trans ((hu_n (by omega)).trans RA1.1.2.2.2.2.2.2.1))), ((hu_n (by omega)).trans ((hu_n (by omega)).trans ((hu_n (by omega)).trans RA1.1.2.2.2.2.2.2.2.1))), ((hu_n (by omega)).trans ((hu_n (by omega)).trans ((hu_n (by omega)).trans RA1.1.2.2.2.2.2.2.2.2.1))), ((hu_n (by omega)).trans ((hu_n (by omega)).trans ((hu_n (by omega)).trans RA1.1.2.2.2.2.2.2.2.2.2)))⟩, fun p hp => ⟨((hu_n (by omega)).trans ((hu_n (by omega)).trans ((hu_n (by omega)).trans (RA1.2.1 p hp).1))), ((hu_n (by omega)).trans ((hu_n (by omega)).trans ((hu_n (by omega)).trans (RA1.2.1 p hp).2)))⟩, fun k hk => ⟨((hu_n (by omega)).trans ((hu_n (by omega)).trans ((hu_n (by omega)).trans (RA1.2.2.1 k hk).1))), ((hu_n (by omega)).trans ((hu_n (by omega)).trans ((hu_n (by omega)).trans (RA1.2.2.1 k hk).2.1))), ((hu_n (by omega)).trans ((hu_n (by omega)).trans ((hu_n (by omega)).trans (RA1.2.2.1 k hk).2.2)))⟩, fun k hk => ((hu_n (by omega)).trans ((hu_n (by omega)).trans ((hu_n (by omega)).trans (RA1.2.2.2.1 k hk)))), fun i hi => SGR.eq (RA1.2.2.2.2 i hi) (fun q hq => ((hu_n (by omega)).trans ((hu_n (by omega)).trans ((hu_n (by omega)).trans rfl)))) (fun _ _ => rfl)⟩
  exact l_pone hs hT hwt k (cs.nf + 1) 0 0 _ _ _ (by omega) (by rw [smk, smk]; omega) RA4 H71 rfl H74 (hN.w72.w72) ((HF.wr rfl).wr rfl)
set_option maxRecDepth 100000 in
theorem c_passOne {d : Nat} {h : hc_H} {Q : List hc_V → hc_H → Prop} {ft fr : Option ef} {s A T : Nat → Int} {cs : cT} {e : dX} (hs : cOK cs) (H71 : h.2.2 71 = mo s) (H72 : h.2.2 72 = ar 456 A) (H74 : h.2.2 74 = ar 2720 T) (hN : MVN h) (hT : MTX T cs.ru ft fr) (H : RA A cs e) (k : ∀ h2 A2, h2.2.2 72 = ar 456 A2 → RA A2 (dayS fr cs) e → MVN h2 → Fr [72, 77, 78, 79] h h2 → Q [xI (smk cs.mk cs.nf - smk (dayS fr cs).mk cs.nf)] h2) : hc_wp (d + 6) mX10_passOne 0 [xR 71, none, none, none] [] h Q := by
  have hxb := hs.2.2.2.2.2.1
  have hdb := hs.2.2.2.1
  refine wp_go rfl rfl ?_
  refine wp_cv rfl rfl rfl H71 rfl rfl rfl ?_
  refine c_mkeep (d := d + 4) hs H H71 H72 (fun h1 A1 B72 RA1 F1 => ?_)
  refine wp_go rfl rfl ?_
  refine e_get rfl ((F1.2.2 71 rfl).trans H71) rfl rfl ?_
  refine wp_go rfl rfl ?_
  refine wp_go rfl rfl ?_
  refine e_aldE (p := 1) rfl B72 rfl ⟨by omega, by omega⟩ ?_
  rw [show A1 1 = cs.dy from RA1.1.2.1]
  refine wp_go rfl rfl ?_
  refine e_iadd rfl (by omega) ?_
  refine e_iastE (p := 1) rfl B72 ⟨by omega, by omega⟩ ?_
  refine wp_go rfl rfl ?_
  refine e_get rfl ((F1.2.2 71 rfl).trans H71) rfl rfl ?_
  refine wp_go rfl rfl ?_
  refine wp_go rfl rfl ?_
  refine e_get rfl ((F1.2.2 71 rfl).trans H71) rfl rfl ?_
  refine wp_go rfl rfl ?_
  refine e_aldE (p := 3) rfl rfl rfl ⟨by omega, by omega⟩ ?_
  rw [show (hc_u A1 1 (cs.dy + 1)) 3 = cs.x from ((hu_n (by omega)).trans RA1.1.2.2.2.1)]
  refine wp_go rfl rfl ?_
  refine e_irem rfl (by omega) ?_
  rw [Int.tmod_eq_emod_of_nonneg (by omega)]
  refine wp_go rfl rfl ?_
  refine e_get rfl ((F1.2.2 71 rfl).trans H71) rfl rfl ?_
  refine wp_go rfl rfl ?_
  refine e_aldE (p := 2) rfl rfl rfl ⟨by omega, by omega⟩ ?_
  rw [show (hc_u A1 1 (cs.dy + 1)) 2 = cs.rn from ((hu_n (by omega)).trans RA1.1.2.2.1)]
  refine e_cge rfl (fun c34 => ?_) (fun c34 => ?_)
  · skip
    refine wp_go rfl rfl ?_
    have ew : wv cs = 0 := if_neg (by omega)
    refine l_pone42 (wt := 0) hs RA1 ((F1.2.2 71 rfl).trans H71) rfl ((F1.2.2 74 rfl).trans H74) (MVN.w72 (hN.fr F1 rfl)) hT ((Fr.mono F1 (nin_sub rfl)).wr rfl) (by omega) ?_
    unfold dayS at k
    rw [ew] at k
    exact k
  · skip
    refine wp_go rfl rfl ?_
    refine wp_go rfl rfl ?_
    have ew : wv cs = 1 := if_pos (by omega)
    refine l_pone42 (wt := 1) hs RA1 ((F1.2.2 71 rfl).trans H71) rfl ((F1.2.2 74 rfl).trans H74) (MVN.w72 (hN.fr F1 rfl)) hT ((Fr.mono F1 (nin_sub rfl)).wr rfl) (by omega) ?_
    unfold dayS at k
    rw [ew] at k
    exact k
set_option maxRecDepth 100000 in
theorem l_mpass {d : Nat} {h0 : hc_H} {Q : List hc_V → hc_H → Prop} {n : Int} {ft fr : Option ef} {s T : Nat → Int} {cs : cT} {e : dX} (hs : cOK cs) (hT : MTX T cs.ru ft fr) (hn : 1 ≤ n ∧ n ≤ 99) (hd : cs.dy + n ≤ 999) (k : ∀ h2 A2, h2.2.2 72 = ar 456 A2 → RA A2 (dysS fr cs (Int.toNat n)) e → MVN h2 → Fr [72, 77, 78, 79] h0 h2 → Q [xI (smk cs.mk cs.nf - smk (dysS fr cs (Int.toNat n)).mk cs.nf)] h2) : ∀ (g j : Nat) (al : Int) (A : Nat → Int) (h : hc_H), ((j : Int) ≤ n ∧ n < (j : Int) + (g : Int)) → al = smk cs.mk cs.nf - smk (dysS fr cs j).mk cs.nf → h.2.2 71 = mo s → h.2.2 72 = ar 456 A → h.2.2 74 = ar 2720 T → MVN h → RA A (dysS fr cs j) e → Fr [72, 77, 78, 79] h0 h → hc_wp (d + 7) mX10_pass 30 [xR 71, xI n, xI al, xI (j : Int)] [] h Q := by
  intro g
  induction g with
  | zero =>
    intro j al A h hj
    exact absurd hj (by omega)
  | succ g ih =>
    intro j al A h hj hal H71 H72 H74 hN H HF
    refine wp_go rfl rfl ?_
    refine wp_go rfl rfl ?_
    refine e_cge rfl (fun c32 => ?_) (fun c32 => ?_)
    · skip
      refine wp_go rfl rfl ?_
      refine wp_ret rfl rfl ?_
      rw [show Int.toNat n = j by omega] at k
      rw [hal]
      exact k h A H72 H hN HF
    · skip
      have hn8 := hs.1
      have hsx := smk_bd (mk := cs.mk) cs.nf (fun q hq => hs.mkb q (by omega))
      have hsy := smk_bd (mk := (dysS fr cs j).mk) cs.nf (fun q hq => (dys_ok (fr := fr) hs j (by omega)).mkb q (by omega))
      have hsz := smk_bd (mk := (dysS fr cs (j + 1)).mk) cs.nf (fun q hq => (dys_ok (fr := fr) hs (j + 1) (by omega)).mkb q (by omega))
      refine wp_go rfl rfl ?_
      refine wp_go rfl rfl ?_
      refine wp_cv rfl rfl rfl H71 rfl rfl rfl ?_
      refine c_passOne (dys_ok hs j (by omega)) H71 H72 H74 hN (by rw [(dys_kept j).2.2.2.2]; exact hT) H (fun h2 A2 B72 RA2 N2 F2 => ?_)
      have hle := dys_le (fr := fr) hs j (by omega)
      have hle2 := dys_le (fr := fr) hs (j + 1) (by omega)
      have hk1 := (dys_kept (fr := fr) (s := cs) j).1
      rw [hk1]
      refine e_iadd rfl (by have z9 : smk (dayS fr (dysS fr cs j)).mk cs.nf = smk (dysS fr cs (j + 1)).mk cs.nf := rfl; omega) ?_
      refine e_istn (L' := [xR 71, xI n, xI (al + (smk (dysS fr cs j).mk cs.nf - smk (dayS fr (dysS fr cs j)).mk cs.nf)), xI (j : Int)]) rfl rfl rfl ?_
      refine e_inc (L' := [xR 71, xI n, xI (al + (smk (dysS fr cs j).mk cs.nf - smk (dayS fr (dysS fr cs j)).mk cs.nf)), xI ((j : Int) + 1)]) rfl rfl (by omega) rfl ?_
      refine wp_go rfl rfl ?_
      refine ih (j + 1) _ _ _ (by omega) ?_ ((F2.2.2 71 rfl).trans H71) B72 ((F2.2.2 74 rfl).trans H74) N2 RA2 (HF.tr F2 (fun _ z => z))
      rw [hal]
      show _ = smk cs.mk cs.nf - smk (dayS fr (dysS fr cs j)).mk cs.nf
      omega
set_option maxRecDepth 100000 in
theorem c_mpass {d : Nat} {h : hc_H} {Q : List hc_V → hc_H → Prop} {n : Int} {ft fr : Option ef} {s A T : Nat → Int} {cs : cT} {e : dX} (hs : cOK cs) (H71 : h.2.2 71 = mo s) (H72 : h.2.2 72 = ar 456 A) (H74 : h.2.2 74 = ar 2720 T) (hN : MVN h) (hT : MTX T cs.ru ft fr) (H : RA A cs e) (kf : (n < 1 ∨ 99 < n ∨ 999 < cs.dy + n) → Q [xI (-1)] h) (kt : 1 ≤ n → n ≤ 99 → cs.dy + n ≤ 999 → ∀ h2 A2, h2.2.2 72 = ar 456 A2 → RA A2 (dysS fr cs (Int.toNat n)) e → MVN h2 → Fr [72, 77, 78, 79] h h2 → Q [xI (smk cs.mk cs.nf - smk (dysS fr cs (Int.toNat n)).mk cs.nf)] h2) : hc_wp (d + 7) mX10_pass 0 [xR 71, xI n, none, none] [] h Q := by
  have hdb := hs.2.2.2.1
  refine wp_go rfl rfl ?_
  refine wp_go rfl rfl ?_
  refine wp_go rfl rfl ?_
  refine wp_call rfl rfl rfl rfl ?_
  refine c_isIn  (fun q4 => ?_) (fun q4 => ?_)
  · skip
    refine wp_go rfl rfl ?_
    refine wp_go rfl rfl ?_
    refine e_get rfl H71 rfl rfl ?_
    refine wp_go rfl rfl ?_
    refine e_aldE (p := 1) rfl H72 rfl ⟨by omega, by omega⟩ ?_
    rw [show A 1 = cs.dy from H.1.2.1]
    refine wp_go rfl rfl ?_
    refine e_iadd rfl (by omega) ?_
    refine wp_go rfl rfl ?_
    refine e_cle rfl (fun c21 => ?_) (fun c21 => ?_)
    · skip
      refine wp_go rfl rfl ?_
      refine e_istn (L' := [xR 71, xI n, xI 0, none]) rfl rfl rfl ?_
      refine wp_go rfl rfl ?_
      refine e_istn (L' := [xR 71, xI n, xI 0, xI 0]) rfl rfl rfl ?_
      exact l_mpass hs hT (by omega) (by omega) (kt (by omega) (by omega) (by omega)) (Int.toNat n + 1) 0 0 A h (by omega) (by show (0 : Int) = smk cs.mk cs.nf - smk cs.mk cs.nf; omega) H71 H72 H74 hN H Fr.rf
    · skip
      refine wp_go rfl rfl ?_
      refine wp_ret rfl rfl ?_
      exact kf (by omega)
  · skip
    refine wp_go rfl rfl ?_
    refine wp_go rfl rfl ?_
    refine wp_ret rfl rfl ?_
    exact kf (by omega)
