/-! the reference: cost, best -/
set_option maxRecDepth 100000 in
theorem l_mcost {d : Nat} {h0 : hc_H} {Q : List hc_V → hc_H → Prop} {p m : Nat} {t w : Int} {ft fr : Option ef} {s A T : Nat → Int} {cs : cT} {e : dX} (hs : cOK cs) (H : RA A cs e) (hp : p < 8) (hm : m ≤ 1000) (hw : w = 0 ∨ w = 1) (hT : MTX T t ft fr) (k : ∀ h2, MVN h2 → Fr [77, 78, 79] h0 h2 → Q [xI (cs.mk p - mbh fr (p : Int) cs.dy (cs.sl p) w (cs.mk p) m)] h2) : ∀ (g j : Nat) (v : Int) (h : hc_H), (j ≤ m ∧ m < j + g) → v = mbh fr (p : Int) cs.dy (cs.sl p) w (cs.mk p) j → h.2.2 71 = mo s → h.2.2 72 = ar 456 A → h.2.2 74 = ar 2720 T → MVN h → Fr [77, 78, 79] h0 h → hc_wp (d + 6) mX10_costOf 10 [xR 71, xI (p : Int), xI t, xI (m : Int), xI w, xI v, xI ((j + 1 : Nat) : Int)] [] h Q := by
  have hdy := hs.2.2.2.1
  intro g
  induction g with
  | zero =>
    intro j v h hj
    exact absurd hj (by omega)
  | succ g ih =>
    intro j v h hj hv H71 H72 H74 hN HF
    refine wp_go rfl rfl ?_
    refine wp_go rfl rfl ?_
    refine e_cgt rfl (fun c13 => ?_) (fun c13 => ?_)
    · skip
      have hmb := mbh_bd (fr := fr) (who := (p : Int)) (dy := cs.dy) (sl := cs.sl p) (wet := w) (hs.2.1.1 p (by omega)).1 j
      have hmk9 := hs.2.1.1 p (by omega)
      refine wp_go rfl rfl ?_
      refine wp_go rfl rfl ?_
      refine wp_cv rfl rfl rfl H71 rfl rfl rfl ?_
      refine c_marksOf (p := p) H71 H72 (by omega) ?_
      rw [H.mkv p (by omega)]
      refine wp_go rfl rfl ?_
      refine e_isub rfl (by omega) ?_
      refine wp_ret rfl rfl ?_
      rw [hv, show j = m by omega]
      exact k h hN HF
    · skip
      have hmb := mbh_bd (fr := fr) (who := (p : Int)) (dy := cs.dy) (sl := cs.sl p) (wet := w) (hs.2.1.1 p (by omega)).1 j
      have hmk9 := hs.2.1.1 p (by omega)
      refine wp_go rfl rfl ?_
      refine wp_go rfl rfl ?_
      refine wp_go rfl rfl ?_
      refine wp_go rfl rfl ?_
      refine wp_go rfl rfl ?_
      refine wp_go rfl rfl ?_
      refine e_get rfl H71 rfl rfl ?_
      refine wp_go rfl rfl ?_
      refine e_aldE (p := 1) rfl H72 rfl ⟨by omega, by omega⟩ ?_
      rw [show A 1 = cs.dy from H.1.2.1]
      refine wp_go rfl rfl ?_
      refine e_iadd rfl (by omega) ?_
      refine wp_go rfl rfl ?_
      refine wp_cv rfl rfl rfl H71 rfl rfl rfl ?_
      refine c_rubsOf (d := d) (p := p) (sl := cs.sl p) H71 H72 H74 hN hT (by omega) (H.2.1 p (by omega)).2 (hs.2.2.1 p (by omega)) (by omega) (by omega) hw (fun h2 N2 F2 => ?_)
      have hstep : v - rbv fr (p : Int) v (cs.dy + ((j + 1 : Nat) : Int)) (cs.sl p) w = mbh fr (p : Int) cs.dy (cs.sl p) w (cs.mk p) (j + 1) := by
        rw [mbh, ← hv]
        rfl
      have hb2 := mbh_bd (fr := fr) (who := (p : Int)) (dy := cs.dy) (sl := cs.sl p) (wet := w) (hs.2.1.1 p (by omega)).1 (j + 1)
      refine e_isub rfl (by omega) ?_
      refine e_ist (L' := [xR 71, xI (p : Int), xI t, xI (m : Int), xI w, xI (v - (rbv fr (p : Int) v (cs.dy + ((j + 1 : Nat) : Int)) (cs.sl p) w)), xI ((j + 1 : Nat) : Int)]) rfl rfl rfl ?_
      refine e_inc (L' := [xR 71, xI (p : Int), xI t, xI (m : Int), xI w, xI (v - (rbv fr (p : Int) v (cs.dy + ((j + 1 : Nat) : Int)) (cs.sl p) w)), xI (((j + 1 : Nat) : Int) + 1)]) rfl rfl (by omega) rfl ?_
      refine wp_go rfl rfl ?_
      exact ih (j + 1) _ _ (by omega) hstep ((F2.2.2 71 rfl).trans H71) ((F2.2.2 72 rfl).trans H72) ((F2.2.2 74 rfl).trans H74) N2 (HF.tr F2 (fun _ z => z))
set_option maxRecDepth 100000 in
theorem c_costOf {d : Nat} {h : hc_H} {Q : List hc_V → hc_H → Prop} {p m : Nat} {t w : Int} {ft fr : Option ef} {s A T : Nat → Int} {cs : cT} {e : dX} (hs : cOK cs) (H : RA A cs e) (hp : p < 8) (hm : m ≤ 1000) (hw : w = 0 ∨ w = 1) (hT : MTX T t ft fr) (H71 : h.2.2 71 = mo s) (H72 : h.2.2 72 = ar 456 A) (H74 : h.2.2 74 = ar 2720 T) (hN : MVN h) (k : ∀ h2, MVN h2 → Fr [77, 78, 79] h h2 → Q [xI (cs.mk p - mbh fr (p : Int) cs.dy (cs.sl p) w (cs.mk p) m)] h2) : hc_wp (d + 6) mX10_costOf 0 [xR 71, xI (p : Int), xI t, xI (m : Int), xI w, none, none] [] h Q := by
  refine wp_go rfl rfl ?_
  refine wp_go rfl rfl ?_
  refine wp_cv rfl rfl rfl H71 rfl rfl rfl ?_
  refine c_marksOf (p := p) H71 H72 (by omega) ?_
  rw [H.mkv p (by omega)]
  refine e_ist (L' := [xR 71, xI (p : Int), xI t, xI (m : Int), xI w, xI (cs.mk p), none]) rfl rfl rfl ?_
  refine wp_go rfl rfl ?_
  refine e_ist (L' := [xR 71, xI (p : Int), xI t, xI (m : Int), xI w, xI (cs.mk p), xI 1]) rfl rfl rfl ?_
  exact l_mcost hs H hp hm hw hT k (m + 1) 0 _ h (by omega) rfl H71 H72 H74 hN Fr.rf
set_option maxRecDepth 100000 in
theorem c_mcost0 {d : Nat} {h : hc_H} {Q : List hc_V → hc_H → Prop} {v t n : Int} {ft fr : Option ef} {s A T : Nat → Int} {cs : cT} {e : dX} (hs : cOK cs) (H : RA A cs e) (htc : 0 ≤ cs.tc ∧ cs.tc ≤ 4) (hT : (-1 ≤ t ∧ t < cs.tc) → MTX T t ft fr) (H71 : h.2.2 71 = mo s) (H72 : h.2.2 72 = ar 456 A) (H74 : h.2.2 74 = ar 2720 T) (hN : MVN h) (kf : ¬ ((0 ≤ v ∧ v < (cs.nf : Int)) ∧ (-1 ≤ t ∧ t < cs.tc) ∧ (0 ≤ n ∧ n ≤ 60)) → Q [xI (-2)] h) (kt : (0 ≤ v ∧ v < (cs.nf : Int)) → (-1 ≤ t ∧ t < cs.tc) → (0 ≤ n ∧ n ≤ 60) → ∀ h2, MVN h2 → Fr [77, 78, 79] h h2 → Q [xI (cs.mk (Int.toNat v) - mbh fr v cs.dy (cs.sl (Int.toNat v)) 0 (cs.mk (Int.toNat v)) (Int.toNat n))] h2) : hc_wp (d + 7) mX10_cost 0 [xR 71, xI v, xI t, xI n, xI 0] [] h Q := by
  have hn8 := hs.1
  refine wp_go rfl rfl ?_
  refine wp_go rfl rfl ?_
  refine wp_cv rfl rfl rfl H71 rfl rfl rfl ?_
  refine c_misF (nf := cs.nf) H71 H72 H.1.1 hs.1 (fun q2 => ?_) (fun q2 => ?_)
  · skip
    refine wp_go rfl rfl ?_
    refine wp_go rfl rfl ?_
    refine wp_go rfl rfl ?_
    refine wp_go rfl rfl ?_
    refine e_get rfl H71 rfl rfl ?_
    refine wp_go rfl rfl ?_
    refine e_aldE (p := 5) rfl H72 rfl ⟨by omega, by omega⟩ ?_
    rw [show A 5 = cs.tc from H.1.2.2.2.2.2.1]
    refine wp_go rfl rfl ?_
    refine e_isub rfl (by omega) ?_
    refine wp_call rfl rfl rfl rfl ?_
    refine c_isIn  (fun q18 => ?_) (fun q18 => ?_)
    · skip
      refine wp_go rfl rfl ?_
      refine wp_go rfl rfl ?_
      refine wp_go rfl rfl ?_
      refine wp_go rfl rfl ?_
      refine wp_call rfl rfl rfl rfl ?_
      refine c_isIn  (fun q28 => ?_) (fun q28 => ?_)
      · skip
        refine wp_go rfl rfl ?_
        obtain ⟨p, hp⟩ : ∃ p : Nat, v = (p : Int) := ⟨Int.toNat v, by omega⟩
        obtain ⟨m, hm⟩ : ∃ m : Nat, n = (m : Int) := ⟨Int.toNat n, by omega⟩
        subst hp
        subst hm
        refine wp_go rfl rfl ?_
        refine wp_go rfl rfl ?_
        refine wp_go rfl rfl ?_
        refine wp_go rfl rfl ?_
        refine wp_go rfl rfl ?_
        refine wp_go rfl rfl ?_
        refine wp_go rfl rfl ?_
        refine wp_cv rfl rfl rfl H71 rfl rfl rfl ?_
        refine c_costOf (d := d) (p := p) (m := m) hs H (by omega) (by omega) (by omega) (hT (by omega)) H71 H72 H74 hN (fun h2 N2 F2 => ?_)
        refine wp_go rfl rfl ?_
        refine wp_ret rfl rfl ?_
        exact kt (by omega) (by omega) (by omega) h2 N2 F2
      · skip
        refine wp_go rfl rfl ?_
        refine wp_go rfl rfl ?_
        refine wp_ret rfl rfl ?_
        exact kf (by omega)
    · skip
      refine wp_go rfl rfl ?_
      refine wp_go rfl rfl ?_
      refine wp_ret rfl rfl ?_
      exact kf (by omega)
  · skip
    refine wp_go rfl rfl ?_
    refine wp_go rfl rfl ?_
    refine wp_ret rfl rfl ?_
    exact kf (by omega)
set_option maxRecDepth 100000 in
theorem c_mcost1 {d : Nat} {h : hc_H} {Q : List hc_V → hc_H → Prop} {v t n : Int} {ft fr : Option ef} {s A T : Nat → Int} {cs : cT} {e : dX} (hs : cOK cs) (H : RA A cs e) (htc : 0 ≤ cs.tc ∧ cs.tc ≤ 4) (hT : (-1 ≤ t ∧ t < cs.tc) → MTX T t ft fr) (H71 : h.2.2 71 = mo s) (H72 : h.2.2 72 = ar 456 A) (H74 : h.2.2 74 = ar 2720 T) (hN : MVN h) (kf : ¬ ((0 ≤ v ∧ v < (cs.nf : Int)) ∧ (-1 ≤ t ∧ t < cs.tc) ∧ (0 ≤ n ∧ n ≤ 60)) → Q [xI (-2)] h) (kt : (0 ≤ v ∧ v < (cs.nf : Int)) → (-1 ≤ t ∧ t < cs.tc) → (0 ≤ n ∧ n ≤ 60) → ∀ h2, MVN h2 → Fr [77, 78, 79] h h2 → Q [xI (cs.mk (Int.toNat v) - mbh fr v cs.dy (cs.sl (Int.toNat v)) 1 (cs.mk (Int.toNat v)) (Int.toNat n))] h2) : hc_wp (d + 7) mX10_cost 0 [xR 71, xI v, xI t, xI n, xI 1] [] h Q := by
  have hn8 := hs.1
  refine wp_go rfl rfl ?_
  refine wp_go rfl rfl ?_
  refine wp_cv rfl rfl rfl H71 rfl rfl rfl ?_
  refine c_misF (nf := cs.nf) H71 H72 H.1.1 hs.1 (fun q2 => ?_) (fun q2 => ?_)
  · skip
    refine wp_go rfl rfl ?_
    refine wp_go rfl rfl ?_
    refine wp_go rfl rfl ?_
    refine wp_go rfl rfl ?_
    refine e_get rfl H71 rfl rfl ?_
    refine wp_go rfl rfl ?_
    refine e_aldE (p := 5) rfl H72 rfl ⟨by omega, by omega⟩ ?_
    rw [show A 5 = cs.tc from H.1.2.2.2.2.2.1]
    refine wp_go rfl rfl ?_
    refine e_isub rfl (by omega) ?_
    refine wp_call rfl rfl rfl rfl ?_
    refine c_isIn  (fun q18 => ?_) (fun q18 => ?_)
    · skip
      refine wp_go rfl rfl ?_
      refine wp_go rfl rfl ?_
      refine wp_go rfl rfl ?_
      refine wp_go rfl rfl ?_
      refine wp_call rfl rfl rfl rfl ?_
      refine c_isIn  (fun q28 => ?_) (fun q28 => ?_)
      · skip
        refine wp_go rfl rfl ?_
        obtain ⟨p, hp⟩ : ∃ p : Nat, v = (p : Int) := ⟨Int.toNat v, by omega⟩
        obtain ⟨m, hm⟩ : ∃ m : Nat, n = (m : Int) := ⟨Int.toNat n, by omega⟩
        subst hp
        subst hm
        refine wp_go rfl rfl ?_
        refine wp_go rfl rfl ?_
        refine wp_go rfl rfl ?_
        refine wp_go rfl rfl ?_
        refine wp_go rfl rfl ?_
        refine wp_go rfl rfl ?_
        refine wp_go rfl rfl ?_
        refine wp_go rfl rfl ?_
        refine wp_cv rfl rfl rfl H71 rfl rfl rfl ?_
        refine c_costOf (d := d) (p := p) (m := m) hs H (by omega) (by omega) (by omega) (hT (by omega)) H71 H72 H74 hN (fun h2 N2 F2 => ?_)
        refine wp_go rfl rfl ?_
        refine wp_ret rfl rfl ?_
        exact kt (by omega) (by omega) (by omega) h2 N2 F2
      · skip
        refine wp_go rfl rfl ?_
        refine wp_go rfl rfl ?_
        refine wp_ret rfl rfl ?_
        exact kf (by omega)
    · skip
      refine wp_go rfl rfl ?_
      refine wp_go rfl rfl ?_
      refine wp_ret rfl rfl ?_
      exact kf (by omega)
  · skip
    refine wp_go rfl rfl ?_
    refine wp_go rfl rfl ?_
    refine wp_ret rfl rfl ?_
    exact kf (by omega)
set_option maxRecDepth 100000 in
theorem l_mbst0a {d : Nat} {h0 : hc_H} {Q : List hc_V → hc_H → Prop} {m : Nat} {t fo le : Int} {ft fr : Option ef} {s A T : Nat → Int} {cs : cT} {e : dX} (hs : cOK cs) (H : RA A cs e) (hm : m ≤ 1000) (hT : MTX T t ft fr) (k : ∀ h2 v2 i2, v2 = smk cs.mk cs.nf - msm fr cs.mk cs.sl cs.dy 0 m cs.nf → h2.2.2 71 = mo s → h2.2.2 72 = ar 456 A → h2.2.2 74 = ar 2720 T → MVN h2 → Fr [77, 78, 79] h0 h2 → hc_wp (d + 7) mX10_best 80 [xR 71, xI (m : Int), xI 0, xI fo, xI le, xI t, xI v2, xI i2] [] h2 Q) : ∀ (g i : Nat) (v : Int) (h : hc_H), (i ≤ cs.nf ∧ cs.nf < i + g) → v = smk cs.mk i - msm fr cs.mk cs.sl cs.dy 0 m i → (-10000000 * (i : Int) ≤ v ∧ v ≤ 10000000 * (i : Int)) → h.2.2 71 = mo s → h.2.2 72 = ar 456 A → h.2.2 74 = ar 2720 T → MVN h → Fr [77, 78, 79] h0 h → hc_wp (d + 7) mX10_best 40 [xR 71, xI (m : Int), xI 0, xI fo, xI le, xI t, xI v, xI (i : Int)] [] h Q := by
  have hn8 := hs.1
  intro g
  induction g with
  | zero =>
    intro i v h hj
    exact absurd hj (by omega)
  | succ g ih =>
    intro i v h hj hv hvb H71 H72 H74 hN HF
    refine wp_go rfl rfl ?_
    refine wp_go rfl rfl ?_
    refine e_get rfl H71 rfl rfl ?_
    refine wp_go rfl rfl ?_
    refine e_aldE (p := 0) rfl H72 rfl ⟨by omega, by omega⟩ ?_
    rw [show A 0 = (cs.nf : Int) from H.1.1]
    refine e_cge rfl (fun c48 => ?_) (fun c48 => ?_)
    · skip
      rw [show i = cs.nf by omega] at hv
      exact k h v _ hv H71 H72 H74 hN HF
    · skip
      refine wp_go rfl rfl ?_
      refine wp_go rfl rfl ?_
      refine wp_go rfl rfl ?_
      refine wp_go rfl rfl ?_
      refine wp_go rfl rfl ?_
      refine wp_go rfl rfl ?_
      refine wp_go rfl rfl ?_
      refine wp_go rfl rfl ?_
      refine wp_cv rfl rfl rfl H71 rfl rfl rfl ?_
      refine c_costOf (d := d) (p := i) (m := m) hs H (by omega) (by omega) (by omega) hT H71 H72 H74 hN (fun h2 N2 F2 => ?_)
      have hmb := mbh_bd (fr := fr) (who := (i : Int)) (dy := cs.dy) (sl := cs.sl i) (wet := 0) (hs.2.1.1 i (by omega)).1 m
      have hmk9 := hs.2.1.1 i (by omega)
      refine e_iadd rfl (by omega) ?_
      refine e_ist (L' := [xR 71, xI (m : Int), xI 0, xI fo, xI le, xI t, xI (v + (cs.mk i - mbh fr (i : Int) cs.dy (cs.sl i) 0 (cs.mk i) m)), xI (i : Int)]) rfl rfl rfl ?_
      refine e_inc (L' := [xR 71, xI (m : Int), xI 0, xI fo, xI le, xI t, xI (v + (cs.mk i - mbh fr (i : Int) cs.dy (cs.sl i) 0 (cs.mk i) m)), xI ((i : Int) + 1)]) rfl rfl (by omega) rfl ?_
      refine wp_go rfl rfl ?_
      exact ih (i + 1) _ _ (by omega) (by rw [smk, msm, hv]; omega) (by omega) ((F2.2.2 71 rfl).trans H71) ((F2.2.2 72 rfl).trans H72) ((F2.2.2 74 rfl).trans H74) N2 (HF.tr F2 (fun _ z => z))
set_option maxRecDepth 100000 in
theorem l_mbst0b {d : Nat} {h0 : hc_H} {Q : List hc_V → hc_H → Prop} {m : Nat} {ftf frf : Nat → Option ef} {s A T : Nat → Int} {cs : cT} {e : dX} (hs : cOK cs) (H : RA A cs e) (hm : m ≤ 1000) (htc : 0 ≤ cs.tc ∧ cs.tc ≤ 4) (hT : ∀ t : Nat, (t : Int) < cs.tc → MTX T (t : Int) (ftf t) (frf t)) (k : ∀ h2, MVN h2 → Fr [77, 78, 79] h0 h2 → Q [xI (bst frf cs.mk cs.sl cs.dy 0 m cs.nf (Int.toNat cs.tc)).1] h2) : ∀ (g j : Nat) (fo le : Int) (l6 l7 : hc_V) (h : hc_H), ((j : Int) ≤ cs.tc ∧ cs.tc < ((j + g : Nat) : Int)) → fo = (bst frf cs.mk cs.sl cs.dy 0 m cs.nf j).1 → ((j = 0 ∧ le = 1000000000) ∨ (1 ≤ j ∧ le = smk cs.mk cs.nf - (bst frf cs.mk cs.sl cs.dy 0 m cs.nf j).2)) → h.2.2 71 = mo s → h.2.2 72 = ar 456 A → h.2.2 74 = ar 2720 T → MVN h → Fr [77, 78, 79] h0 h → hc_wp (d + 7) mX10_best 23 [xR 71, xI (m : Int), xI 0, xI fo, xI le, xI (j : Int), l6, l7] [] h Q := by
  have hn8 := hs.1
  have hsn := smk_nf hs
  intro g
  induction g with
  | zero =>
    intro j fo le l6 l7 h hj
    exact absurd hj (by omega)
  | succ g ih =>
    intro j fo le l6 l7 h hj hfo hle H71 H72 H74 hN HF
    refine wp_go rfl rfl ?_
    refine wp_go rfl rfl ?_
    refine e_get rfl H71 rfl rfl ?_
    refine wp_go rfl rfl ?_
    refine e_aldE (p := 5) rfl H72 rfl ⟨by omega, by omega⟩ ?_
    rw [show A 5 = cs.tc from H.1.2.2.2.2.2.1]
    refine e_cge rfl (fun c31 => ?_) (fun c31 => ?_)
    · skip
      refine wp_go rfl rfl ?_
      refine wp_ret rfl rfl ?_
      rw [hfo, show (j : Nat) = Int.toNat cs.tc by omega]
      exact k h hN HF
    · skip
      refine wp_go rfl rfl ?_
      refine e_ist (L' := [xR 71, xI (m : Int), xI 0, xI fo, xI le, xI (j : Int), xI 0, l7]) rfl rfl rfl ?_
      refine wp_go rfl rfl ?_
      refine e_ist (L' := [xR 71, xI (m : Int), xI 0, xI fo, xI le, xI (j : Int), xI 0, xI 0]) rfl rfl rfl ?_
      refine l_mbst0a (d := d) (h0 := h0) (t := (j : Int)) (fo := fo) (le := le) hs H hm (hT j (by omega)) (fun h3 v2 i2 hv2 B71 B72 B74 N3 F3 => ?_) (cs.nf + 1) 0 0 h (by omega) rfl (by omega) H71 H72 H74 hN HF
      have hmb := msm_bd (fr := frf j) (sl := cs.sl) (dy := cs.dy) (w := 0) (m := m) cs.nf (fun q hq => hs.2.1.1 q (by omega))
      have hbb : j = 0 → (bst frf cs.mk cs.sl cs.dy 0 m cs.nf j).2 = -1 := fun z => by rw [z]; rfl
      refine wp_go rfl rfl ?_
      refine wp_go rfl rfl ?_
      refine e_clt rfl (fun c84 => ?_) (fun c84 => ?_)
      · skip
        refine wp_go rfl rfl ?_
        refine e_ist (L' := [xR 71, xI (m : Int), xI 0, xI fo, xI v2, xI (j : Int), xI v2, xI i2]) rfl rfl rfl ?_
        refine wp_go rfl rfl ?_
        refine e_istn (L' := [xR 71, xI (m : Int), xI 0, xI (j : Int), xI v2, xI (j : Int), xI v2, xI i2]) rfl rfl rfl ?_
        refine e_inc (L' := [xR 71, xI (m : Int), xI 0, xI (j : Int), xI v2, xI ((j : Int) + 1), xI v2, xI i2]) rfl rfl (by omega) rfl ?_
        refine wp_go rfl rfl ?_
        have hbs : bst frf cs.mk cs.sl cs.dy 0 m cs.nf (j + 1) = ((j : Int), msm (frf j) cs.mk cs.sl cs.dy 0 m cs.nf) := by rw [bst, if_pos (by omega)]
        exact ih (j + 1) _ _ _ _ _ (by omega) (by rw [hbs]) (Or.inr ⟨by omega, by rw [hbs]; exact hv2⟩) B71 B72 B74 N3 F3
      · skip
        refine wp_go rfl rfl ?_
        refine e_inc (L' := [xR 71, xI (m : Int), xI 0, xI fo, xI le, xI ((j : Int) + 1), xI v2, xI i2]) rfl rfl (by omega) rfl ?_
        refine wp_go rfl rfl ?_
        have hbs : bst frf cs.mk cs.sl cs.dy 0 m cs.nf (j + 1) = (bst frf cs.mk cs.sl cs.dy 0 m cs.nf j) := by rw [bst, if_neg (by omega)]
        exact ih (j + 1) _ _ _ _ _ (by omega) (by rw [hbs]; exact hfo) (Or.inr ⟨by omega, by rw [hbs]; omega⟩) B71 B72 B74 N3 F3
set_option maxRecDepth 100000 in
theorem c_mbest0 {d : Nat} {h : hc_H} {Q : List hc_V → hc_H → Prop} {n : Int} {ftf frf : Nat → Option ef} {s A T : Nat → Int} {cs : cT} {e : dX} (hs : cOK cs) (H : RA A cs e) (htc : 0 ≤ cs.tc ∧ cs.tc ≤ 4) (hT : ∀ t : Nat, (t : Int) < cs.tc → MTX T (t : Int) (ftf t) (frf t)) (H71 : h.2.2 71 = mo s) (H72 : h.2.2 72 = ar 456 A) (H74 : h.2.2 74 = ar 2720 T) (hN : MVN h) (kf : ¬ (0 ≤ n ∧ n ≤ 60) → Q [xI (-2)] h) (kt : (0 ≤ n ∧ n ≤ 60) → ∀ h2, MVN h2 → Fr [77, 78, 79] h h2 → Q [xI (bst frf cs.mk cs.sl cs.dy 0 (Int.toNat n) cs.nf (Int.toNat cs.tc)).1] h2) : hc_wp (d + 7) mX10_best 0 [xR 71, xI n, xI 0, none, none, none, none, none] [] h Q := by
  refine wp_go rfl rfl ?_
  refine wp_go rfl rfl ?_
  refine wp_go rfl rfl ?_
  refine wp_call rfl rfl rfl rfl ?_
  refine c_isIn  (fun q4 => ?_) (fun q4 => ?_)
  · skip
    refine wp_go rfl rfl ?_
    obtain ⟨m, hm⟩ : ∃ m : Nat, n = (m : Int) := ⟨Int.toNat n, by omega⟩
    subst hm
    refine wp_go rfl rfl ?_
    refine e_istn (L' := [xR 71, xI (m : Int), xI 0, xI (-1), none, none, none, none]) rfl rfl rfl ?_
    refine e_ldcw 1000000000 rfl rfl ?_
    refine e_ist (L' := [xR 71, xI (m : Int), xI 0, xI (-1), xI 1000000000, none, none, none]) rfl rfl rfl ?_
    refine wp_go rfl rfl ?_
    refine e_ist (L' := [xR 71, xI (m : Int), xI 0, xI (-1), xI 1000000000, xI 0, none, none]) rfl rfl rfl ?_
    exact l_mbst0b (d := d) (h0 := h) hs H (by omega) htc hT (fun h2 N2 F2 => kt (by omega) h2 N2 F2) 5 0 (-1) 1000000000 _ _ h (by omega) rfl (Or.inl ⟨rfl, rfl⟩) H71 H72 H74 hN Fr.rf
  · skip
    refine wp_go rfl rfl ?_
    refine wp_go rfl rfl ?_
    refine wp_ret rfl rfl ?_
    exact kf (by omega)
set_option maxRecDepth 100000 in
theorem l_mbst1a {d : Nat} {h0 : hc_H} {Q : List hc_V → hc_H → Prop} {m : Nat} {t fo le : Int} {ft fr : Option ef} {s A T : Nat → Int} {cs : cT} {e : dX} (hs : cOK cs) (H : RA A cs e) (hm : m ≤ 1000) (hT : MTX T t ft fr) (k : ∀ h2 v2 i2, v2 = smk cs.mk cs.nf - msm fr cs.mk cs.sl cs.dy 1 m cs.nf → h2.2.2 71 = mo s → h2.2.2 72 = ar 456 A → h2.2.2 74 = ar 2720 T → MVN h2 → Fr [77, 78, 79] h0 h2 → hc_wp (d + 7) mX10_best 80 [xR 71, xI (m : Int), xI 1, xI fo, xI le, xI t, xI v2, xI i2] [] h2 Q) : ∀ (g i : Nat) (v : Int) (h : hc_H), (i ≤ cs.nf ∧ cs.nf < i + g) → v = smk cs.mk i - msm fr cs.mk cs.sl cs.dy 1 m i → (-10000000 * (i : Int) ≤ v ∧ v ≤ 10000000 * (i : Int)) → h.2.2 71 = mo s → h.2.2 72 = ar 456 A → h.2.2 74 = ar 2720 T → MVN h → Fr [77, 78, 79] h0 h → hc_wp (d + 7) mX10_best 40 [xR 71, xI (m : Int), xI 1, xI fo, xI le, xI t, xI v, xI (i : Int)] [] h Q := by
  have hn8 := hs.1
  intro g
  induction g with
  | zero =>
    intro i v h hj
    exact absurd hj (by omega)
  | succ g ih =>
    intro i v h hj hv hvb H71 H72 H74 hN HF
    refine wp_go rfl rfl ?_
    refine wp_go rfl rfl ?_
    refine e_get rfl H71 rfl rfl ?_
    refine wp_go rfl rfl ?_
    refine e_aldE (p := 0) rfl H72 rfl ⟨by omega, by omega⟩ ?_
    rw [show A 0 = (cs.nf : Int) from H.1.1]
    refine e_cge rfl (fun c48 => ?_) (fun c48 => ?_)
    · skip
      rw [show i = cs.nf by omega] at hv
      exact k h v _ hv H71 H72 H74 hN HF
    · skip
      refine wp_go rfl rfl ?_
      refine wp_go rfl rfl ?_
      refine wp_go rfl rfl ?_
      refine wp_go rfl rfl ?_
      refine wp_go rfl rfl ?_
      refine wp_go rfl rfl ?_
      refine wp_go rfl rfl ?_
      refine wp_go rfl rfl ?_
      refine wp_go rfl rfl ?_
      refine wp_cv rfl rfl rfl H71 rfl rfl rfl ?_
      refine c_costOf (d := d) (p := i) (m := m) hs H (by omega) (by omega) (by omega) hT H71 H72 H74 hN (fun h2 N2 F2 => ?_)
      have hmb := mbh_bd (fr := fr) (who := (i : Int)) (dy := cs.dy) (sl := cs.sl i) (wet := 1) (hs.2.1.1 i (by omega)).1 m
      have hmk9 := hs.2.1.1 i (by omega)
      refine e_iadd rfl (by omega) ?_
      refine e_ist (L' := [xR 71, xI (m : Int), xI 1, xI fo, xI le, xI t, xI (v + (cs.mk i - mbh fr (i : Int) cs.dy (cs.sl i) 1 (cs.mk i) m)), xI (i : Int)]) rfl rfl rfl ?_
      refine e_inc (L' := [xR 71, xI (m : Int), xI 1, xI fo, xI le, xI t, xI (v + (cs.mk i - mbh fr (i : Int) cs.dy (cs.sl i) 1 (cs.mk i) m)), xI ((i : Int) + 1)]) rfl rfl (by omega) rfl ?_
      refine wp_go rfl rfl ?_
      exact ih (i + 1) _ _ (by omega) (by rw [smk, msm, hv]; omega) (by omega) ((F2.2.2 71 rfl).trans H71) ((F2.2.2 72 rfl).trans H72) ((F2.2.2 74 rfl).trans H74) N2 (HF.tr F2 (fun _ z => z))
set_option maxRecDepth 100000 in
theorem l_mbst1b {d : Nat} {h0 : hc_H} {Q : List hc_V → hc_H → Prop} {m : Nat} {ftf frf : Nat → Option ef} {s A T : Nat → Int} {cs : cT} {e : dX} (hs : cOK cs) (H : RA A cs e) (hm : m ≤ 1000) (htc : 0 ≤ cs.tc ∧ cs.tc ≤ 4) (hT : ∀ t : Nat, (t : Int) < cs.tc → MTX T (t : Int) (ftf t) (frf t)) (k : ∀ h2, MVN h2 → Fr [77, 78, 79] h0 h2 → Q [xI (bst frf cs.mk cs.sl cs.dy 1 m cs.nf (Int.toNat cs.tc)).1] h2) : ∀ (g j : Nat) (fo le : Int) (l6 l7 : hc_V) (h : hc_H), ((j : Int) ≤ cs.tc ∧ cs.tc < ((j + g : Nat) : Int)) → fo = (bst frf cs.mk cs.sl cs.dy 1 m cs.nf j).1 → ((j = 0 ∧ le = 1000000000) ∨ (1 ≤ j ∧ le = smk cs.mk cs.nf - (bst frf cs.mk cs.sl cs.dy 1 m cs.nf j).2)) → h.2.2 71 = mo s → h.2.2 72 = ar 456 A → h.2.2 74 = ar 2720 T → MVN h → Fr [77, 78, 79] h0 h → hc_wp (d + 7) mX10_best 23 [xR 71, xI (m : Int), xI 1, xI fo, xI le, xI (j : Int), l6, l7] [] h Q := by
  have hn8 := hs.1
  have hsn := smk_nf hs
  intro g
  induction g with
  | zero =>
    intro j fo le l6 l7 h hj
    exact absurd hj (by omega)
  | succ g ih =>
    intro j fo le l6 l7 h hj hfo hle H71 H72 H74 hN HF
    refine wp_go rfl rfl ?_
    refine wp_go rfl rfl ?_
    refine e_get rfl H71 rfl rfl ?_
    refine wp_go rfl rfl ?_
    refine e_aldE (p := 5) rfl H72 rfl ⟨by omega, by omega⟩ ?_
    rw [show A 5 = cs.tc from H.1.2.2.2.2.2.1]
    refine e_cge rfl (fun c31 => ?_) (fun c31 => ?_)
    · skip
      refine wp_go rfl rfl ?_
      refine wp_ret rfl rfl ?_
      rw [hfo, show (j : Nat) = Int.toNat cs.tc by omega]
      exact k h hN HF
    · skip
      refine wp_go rfl rfl ?_
      refine e_ist (L' := [xR 71, xI (m : Int), xI 1, xI fo, xI le, xI (j : Int), xI 0, l7]) rfl rfl rfl ?_
      refine wp_go rfl rfl ?_
      refine e_ist (L' := [xR 71, xI (m : Int), xI 1, xI fo, xI le, xI (j : Int), xI 0, xI 0]) rfl rfl rfl ?_
      refine l_mbst1a (d := d) (h0 := h0) (t := (j : Int)) (fo := fo) (le := le) hs H hm (hT j (by omega)) (fun h3 v2 i2 hv2 B71 B72 B74 N3 F3 => ?_) (cs.nf + 1) 0 0 h (by omega) rfl (by omega) H71 H72 H74 hN HF
      have hmb := msm_bd (fr := frf j) (sl := cs.sl) (dy := cs.dy) (w := 1) (m := m) cs.nf (fun q hq => hs.2.1.1 q (by omega))
      have hbb : j = 0 → (bst frf cs.mk cs.sl cs.dy 1 m cs.nf j).2 = -1 := fun z => by rw [z]; rfl
      refine wp_go rfl rfl ?_
      refine wp_go rfl rfl ?_
      refine e_clt rfl (fun c84 => ?_) (fun c84 => ?_)
      · skip
        refine wp_go rfl rfl ?_
        refine e_ist (L' := [xR 71, xI (m : Int), xI 1, xI fo, xI v2, xI (j : Int), xI v2, xI i2]) rfl rfl rfl ?_
        refine wp_go rfl rfl ?_
        refine e_istn (L' := [xR 71, xI (m : Int), xI 1, xI (j : Int), xI v2, xI (j : Int), xI v2, xI i2]) rfl rfl rfl ?_
        refine e_inc (L' := [xR 71, xI (m : Int), xI 1, xI (j : Int), xI v2, xI ((j : Int) + 1), xI v2, xI i2]) rfl rfl (by omega) rfl ?_
        refine wp_go rfl rfl ?_
        have hbs : bst frf cs.mk cs.sl cs.dy 1 m cs.nf (j + 1) = ((j : Int), msm (frf j) cs.mk cs.sl cs.dy 1 m cs.nf) := by rw [bst, if_pos (by omega)]
        exact ih (j + 1) _ _ _ _ _ (by omega) (by rw [hbs]) (Or.inr ⟨by omega, by rw [hbs]; exact hv2⟩) B71 B72 B74 N3 F3
      · skip
        refine wp_go rfl rfl ?_
        refine e_inc (L' := [xR 71, xI (m : Int), xI 1, xI fo, xI le, xI ((j : Int) + 1), xI v2, xI i2]) rfl rfl (by omega) rfl ?_
        refine wp_go rfl rfl ?_
        have hbs : bst frf cs.mk cs.sl cs.dy 1 m cs.nf (j + 1) = (bst frf cs.mk cs.sl cs.dy 1 m cs.nf j) := by rw [bst, if_neg (by omega)]
        exact ih (j + 1) _ _ _ _ _ (by omega) (by rw [hbs]; exact hfo) (Or.inr ⟨by omega, by rw [hbs]; omega⟩) B71 B72 B74 N3 F3
set_option maxRecDepth 100000 in
theorem c_mbest1 {d : Nat} {h : hc_H} {Q : List hc_V → hc_H → Prop} {n : Int} {ftf frf : Nat → Option ef} {s A T : Nat → Int} {cs : cT} {e : dX} (hs : cOK cs) (H : RA A cs e) (htc : 0 ≤ cs.tc ∧ cs.tc ≤ 4) (hT : ∀ t : Nat, (t : Int) < cs.tc → MTX T (t : Int) (ftf t) (frf t)) (H71 : h.2.2 71 = mo s) (H72 : h.2.2 72 = ar 456 A) (H74 : h.2.2 74 = ar 2720 T) (hN : MVN h) (kf : ¬ (0 ≤ n ∧ n ≤ 60) → Q [xI (-2)] h) (kt : (0 ≤ n ∧ n ≤ 60) → ∀ h2, MVN h2 → Fr [77, 78, 79] h h2 → Q [xI (bst frf cs.mk cs.sl cs.dy 1 (Int.toNat n) cs.nf (Int.toNat cs.tc)).1] h2) : hc_wp (d + 7) mX10_best 0 [xR 71, xI n, xI 1, none, none, none, none, none] [] h Q := by
  refine wp_go rfl rfl ?_
  refine wp_go rfl rfl ?_
  refine wp_go rfl rfl ?_
  refine wp_call rfl rfl rfl rfl ?_
  refine c_isIn  (fun q4 => ?_) (fun q4 => ?_)
  · skip
    refine wp_go rfl rfl ?_
    obtain ⟨m, hm⟩ : ∃ m : Nat, n = (m : Int) := ⟨Int.toNat n, by omega⟩
    subst hm
    refine wp_go rfl rfl ?_
    refine e_istn (L' := [xR 71, xI (m : Int), xI 1, xI (-1), none, none, none, none]) rfl rfl rfl ?_
    refine e_ldcw 1000000000 rfl rfl ?_
    refine e_ist (L' := [xR 71, xI (m : Int), xI 1, xI (-1), xI 1000000000, none, none, none]) rfl rfl rfl ?_
    refine wp_go rfl rfl ?_
    refine e_ist (L' := [xR 71, xI (m : Int), xI 1, xI (-1), xI 1000000000, xI 0, none, none]) rfl rfl rfl ?_
    exact l_mbst1b (d := d) (h0 := h) hs H (by omega) htc hT (fun h2 N2 F2 => kt (by omega) h2 N2 F2) 5 0 (-1) 1000000000 _ _ h (by omega) rfl (Or.inl ⟨rfl, rfl⟩) H71 H72 H74 hN Fr.rf
  · skip
    refine wp_go rfl rfl ?_
    refine wp_go rfl rfl ?_
    refine wp_ret rfl rfl ?_
    exact kf (by omega)
