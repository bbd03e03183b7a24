/-! the reference: who rubbed it -/
def fdn (fr : Option ef) (m0 : Int) (sn : Nat → Int) (who dy sl w : Int) : Nat → Nat
  | 0 => 0
  | n + 1 => if fdc fr m0 sn who dy sl w n = true then sbt (fdn fr m0 sn who dy sl w n) n else fdn fr m0 sn who dy sl w n
theorem fdn_ok {fr : Option ef} {m0 : Int} {sn : Nat → Int} {who dy sl w : Int} : ∀ n : Nat, n ≤ 8 → fdn fr m0 sn who dy sl w n < 256 ∧ fdm fr m0 sn who dy sl w n = ((fdn fr m0 sn who dy sl w n : Nat) : Int) ∧ ∀ i, i < 8 → Nat.testBit (fdn fr m0 sn who dy sl w n) i = (decide (i < n) && fdc fr m0 sn who dy sl w i)
  | 0, _ => ⟨by rw [fdn]; omega, rfl, fun i _ => by rw [fdn, Nat.zero_testBit, decide_eq_false (by omega)]; rfl⟩
  | n + 1, h => by
    obtain ⟨i1, i2, i3⟩ := fdn_ok (fr := fr) (m0 := m0) (sn := sn) (who := who) (dy := dy) (sl := sl) (w := w) n (by omega)
    rw [fdn, fdm]
    by_cases c : fdc fr m0 sn who dy sl w n = true
    · rw [if_pos c, if_pos c]
      refine ⟨(clr_lt i1 (show n < 8 by omega)).2.2, by rw [i2]; exact b_sbt i1 (by omega), fun i hi => ?_⟩
      have e : Nat.testBit (sbt (fdn fr m0 sn who dy sl w n) n) i = (Nat.testBit (fdn fr m0 sn who dy sl w n) i || decide (i = n)) := sbt_bit' ⟨_, i1⟩ ⟨n, by omega⟩ ⟨i, hi⟩
      rw [e, i3 i hi]
      by_cases z : i = n
      · rw [z, c, decide_eq_true rfl, decide_eq_true (show n < n + 1 by omega), Bool.or_true]
        rfl
      · rw [decide_eq_false z, Bool.or_false]
        by_cases z2 : i < n
        · rw [decide_eq_true z2, decide_eq_true (show i < n + 1 by omega)]
        · rw [decide_eq_false z2, decide_eq_false (show ¬ i < n + 1 by omega)]
    · rw [if_neg c, if_neg c]
      refine ⟨i1, i2, fun i hi => ?_⟩
      rw [i3 i hi]
      by_cases z : i = n
      · have c2 : fdc fr m0 sn who dy sl w n = false := by
          cases e : fdc fr m0 sn who dy sl w n with
          | false => rfl
          | true => exact absurd e c
        rw [z, c2, Bool.and_false, Bool.and_false]
      · by_cases z2 : i < n
        · rw [decide_eq_true z2, decide_eq_true (show i < n + 1 by omega)]
        · rw [decide_eq_false z2, decide_eq_false (show ¬ i < n + 1 by omega)]
def bti (v i : Nat) : Int := if Nat.testBit v i = true then 1 else 0
theorem fit_ok {fr : Option ef} {m0 : Int} {sn : Nat → Int} {who dy sl : Int} {c v : Nat} (hc : c ≤ 8) (hv : v < 2 ^ c) : fit (fdm fr m0 sn who dy sl 0 c) (fdm fr m0 sn who dy sl 1 c) (2 ^ c) v = true ↔ ∀ i, i < c → fdc fr m0 sn who dy sl (bti v i) i = true := by
  have h28 : 2 ^ c ≤ 256 := Nat.pow_le_pow_right (n := 2) (by decide) hc
  obtain ⟨a1, a2, a3⟩ := fdn_ok (fr := fr) (m0 := m0) (sn := sn) (who := who) (dy := dy) (sl := sl) (w := 0) c hc
  obtain ⟨b1, b2, b3⟩ := fdn_ok (fr := fr) (m0 := m0) (sn := sn) (who := who) (dy := dy) (sl := sl) (w := 1) c hc
  unfold fit
  rw [a2, b2, show (((2 ^ c : Nat) : Int) - 1 - (v : Int)) = ((2 ^ c - (v + 1) : Nat) : Int) by omega, b_dif (by omega) b1, b_dif (show 2 ^ c - (v + 1) < 256 by omega) a1, Bool.and_eq_true, decide_eq_true_eq, decide_eq_true_eq]
  constructor
  · rintro ⟨h1, h2⟩ i hi
    have h1b := dif_0.1 (show dif v (fdn fr m0 sn who dy sl 1 c) = 0 by omega) i
    have h2b := dif_0.1 (show dif (2 ^ c - (v + 1)) (fdn fr m0 sn who dy sl 0 c) = 0 by omega) i
    unfold bti
    cases e : Nat.testBit v i with
    | true =>
      have := h1b e
      rw [b3 i (by omega), Bool.and_eq_true] at this
      rw [if_pos rfl]
      exact this.2
    | false =>
      have := h2b (by rw [Nat.testBit_two_pow_sub_succ hv, e, decide_eq_true hi]; rfl)
      rw [a3 i (by omega), Bool.and_eq_true] at this
      rw [if_neg (by decide)]
      exact this.2
  · intro h
    have e1 : dif v (fdn fr m0 sn who dy sl 1 c) = 0 := dif_0.2 (fun i hi => by
      have hic := bit_nf hv hi
      have := h i hic
      unfold bti at this
      rw [if_pos hi] at this
      rw [b3 i (by omega), this, decide_eq_true hic]
      rfl)
    have e2 : dif (2 ^ c - (v + 1)) (fdn fr m0 sn who dy sl 0 c) = 0 := dif_0.2 (fun i hi => by
      rw [Nat.testBit_two_pow_sub_succ hv, Bool.and_eq_true, decide_eq_true_eq] at hi
      have := h i hi.1
      unfold bti at this
      have e3 : ¬ Nat.testBit v i = true := by
        cases e : Nat.testBit v i with
        | false => decide
        | true => rw [e] at hi; exact absurd hi.2 (by decide)
      rw [if_neg e3] at this
      rw [a3 i (by omega), this, decide_eq_true hi.1]
      rfl)
    rw [e1, e2]
    exact ⟨rfl, rfl⟩
set_option maxRecDepth 100000 in
theorem l_mcb {d : Nat} {h0 : hc_H} {Q : List hc_V → hc_H → Prop} {p c v : Nat} {ft fr : Option ef} {s A T : Nat → Int} {cs : cT} {e : dX} (hs : cOK cs) (H : RA A cs e) (hp : p < 8) (hsn : SN e.2.2.2.2) (hc : cs.sc = (c : Int)) (hc8 : c ≤ 8) (hv : v < 2 ^ c) (hT : MTX T cs.ru ft fr) (kt : fit (fdm fr (cs.mk p) e.2.2.2.2 (p : Int) cs.dy (cs.sl p) 0 c) (fdm fr (cs.mk p) e.2.2.2.2 (p : Int) cs.dy (cs.sl p) 1 c) (2 ^ c) v = true → ∀ h2, MVN h2 → Fr [77, 78, 79] h0 h2 → Q [xI 1] h2) (kf : fit (fdm fr (cs.mk p) e.2.2.2.2 (p : Int) cs.dy (cs.sl p) 0 c) (fdm fr (cs.mk p) e.2.2.2.2 (p : Int) cs.dy (cs.sl p) 1 c) (2 ^ c) v = false → ∀ h2, MVN h2 → Fr [77, 78, 79] h0 h2 → Q [xI 0] h2) : ∀ (g j : Nat) (h : hc_H), (j ≤ c ∧ c < j + g) → (∀ i, i < j → fdc fr (cs.mk p) e.2.2.2.2 (p : Int) cs.dy (cs.sl p) (bti v i) i = true) → h.2.2 71 = mo s → h.2.2 72 = ar 456 A → h.2.2 74 = ar 2720 T → MVN h → Fr [77, 78, 79] h0 h → hc_wp (d + 6) mX10_canBe 9 [xR 71, xI (p : Int), xI (v : Int), xI (fdh (cs.mk p) e.2.2.2.2 j), xI (j : Int)] [] h Q := by
  have h28 : 2 ^ c ≤ 256 := Nat.pow_le_pow_right (n := 2) (by decide) hc8
  have hdy := hs.2.2.2.1
  have hsi : ∀ i, i < 8 → A (88 + i) = e.2.2.2.2 i := fun i hi => H.2.2.2.1 i hi
  intro g
  induction g with
  | zero =>
    intro j h hj
    exact absurd hj (by omega)
  | succ g ih =>
    intro j h hj HI H71 H72 H74 hN HF
    refine wp_go rfl rfl ?_
    refine wp_go rfl rfl ?_
    refine e_get rfl H71 rfl rfl ?_
    refine wp_go rfl rfl ?_
    refine e_aldE (p := 9) rfl H72 rfl ⟨by omega, by omega⟩ ?_
    rw [show A 9 = (c : Int) from H.1.2.2.2.2.2.2.2.2.2.trans hc]
    refine e_cge rfl (fun c18 => ?_) (fun c18 => ?_)
    · skip
      refine wp_go rfl rfl ?_
      refine wp_ret rfl rfl ?_
      exact kt ((fit_ok hc8 hv).2 (fun i hi => HI i (by omega))) h hN HF
    · skip
      have hfb := fdh_bd (hs.2.1.1 p hp) hsn j (by omega)
      have hbw : bti v j = 0 ∨ bti v j = 1 := by
        unfold bti
        split
        · exact Or.inr rfl
        · exact Or.inl rfl
      refine wp_go rfl rfl ?_
      refine wp_go rfl rfl ?_
      refine wp_go rfl rfl ?_
      refine e_get rfl H71 rfl rfl ?_
      refine wp_go rfl rfl ?_
      refine e_aldE (p := 6) rfl H72 rfl ⟨by omega, by omega⟩ ?_
      rw [show A 6 = cs.ru from H.1.2.2.2.2.2.2.1]
      refine wp_go rfl rfl ?_
      refine wp_go rfl rfl ?_
      refine wp_go rfl rfl ?_
      refine e_get rfl H71 rfl rfl ?_
      refine wp_go rfl rfl ?_
      refine e_aldE (p := 1) rfl H72 rfl ⟨by omega, by omega⟩ ?_
      rw [show A 1 = cs.dy from H.1.2.1]
      refine wp_go rfl rfl ?_
      refine e_iadd rfl (by omega) ?_
      refine wp_go rfl rfl ?_
      refine e_iadd rfl (by omega) ?_
      refine wp_go rfl rfl ?_
      refine wp_go rfl rfl ?_
      refine wp_go rfl rfl ?_
      refine wp_go rfl rfl ?_
      refine wp_go rfl rfl ?_
      rw [show hc_and (hc_shr (v : Int) (j : Int)) 1 = bti v j from b_test (by omega) (by omega)]
      refine wp_cv rfl rfl rfl H71 rfl rfl rfl ?_
      refine c_rubsOf (d := d) (p := p) (sl := cs.sl p) H71 H72 H74 hN hT (by omega) (H.2.1 p (by omega)).2 (hs.2.2.1 p (by omega)) hfb (by omega) hbw (fun h2 N2 F2 => ?_)
      have hrb := rbv_bd (fr := fr) (who := (p : Int)) (day := (cs.dy + 1 + (j : Int))) (sl := cs.sl p) (wet := bti v j) hfb.1
      refine e_isub rfl (by omega) ?_
      refine e_istn (L' := [xR 71, xI (p : Int), xI (v : Int), xI ((fdh (cs.mk p) e.2.2.2.2 j) - (rbv fr (p : Int) (fdh (cs.mk p) e.2.2.2.2 j) (cs.dy + 1 + (j : Int)) (cs.sl p) (bti v j))), xI (j : Int)]) rfl rfl rfl ?_
      refine wp_go rfl rfl ?_
      refine wp_go rfl rfl ?_
      refine e_get rfl ((F2.2.2 71 rfl).trans H71) rfl rfl ?_
      refine wp_go rfl rfl ?_
      refine wp_go rfl rfl ?_
      refine e_iadd rfl (by omega) ?_
      refine e_aldE (p := 88 + j) rfl ((F2.2.2 72 rfl).trans H72) rfl ⟨by omega, by omega⟩ ?_
      rw [hsi j (by omega)]
      refine e_ceq rfl (fun c65 => ?_) (fun c65 => ?_)
      · skip
        refine e_inc (L' := [xR 71, xI (p : Int), xI (v : Int), xI ((fdh (cs.mk p) e.2.2.2.2 j) - (rbv fr (p : Int) (fdh (cs.mk p) e.2.2.2.2 j) (cs.dy + 1 + (j : Int)) (cs.sl p) (bti v j))), xI ((j : Int) + 1)]) rfl rfl (by omega) rfl ?_
        refine wp_go rfl rfl ?_
        have hfc : fdc fr (cs.mk p) e.2.2.2.2 (p : Int) cs.dy (cs.sl p) (bti v j) j = true := by
          unfold fdc
          rw [show cs.dy + (j : Int) + 1 = cs.dy + 1 + (j : Int) by omega]
          exact decide_eq_true c65
        rw [c65]
        exact ih (j + 1) h2 (by omega) (fun i hi => by
          by_cases z : i = j
          · rw [z]
            exact hfc
          · exact HI i (by omega)) ((F2.2.2 71 rfl).trans H71) ((F2.2.2 72 rfl).trans H72) ((F2.2.2 74 rfl).trans H74) N2 (HF.tr F2 (fun _ z => z))
      · skip
        refine wp_go rfl rfl ?_
        refine wp_ret rfl rfl ?_
        have hfc : fdc fr (cs.mk p) e.2.2.2.2 (p : Int) cs.dy (cs.sl p) (bti v j) j = false := by
          unfold fdc
          rw [show cs.dy + (j : Int) + 1 = cs.dy + 1 + (j : Int) by omega]
          exact decide_eq_false c65
        refine kf ?_ h2 N2 (HF.tr F2 (fun _ z => z))
        cases e9 : fit _ _ _ _ with
        | false => rfl
        | true =>
          have := (fit_ok hc8 hv).1 e9 j (by omega)
          rw [hfc] at this
          exact nomatch this
set_option maxRecDepth 100000 in
theorem c_mcanb {d : Nat} {h : hc_H} {Q : List hc_V → hc_H → Prop} {p c v : Nat} {ft fr : Option ef} {s A T : Nat → Int} {cs : cT} {e : dX} (hs : cOK cs) (H : RA A cs e) (hp : p < 8) (hsn : SN e.2.2.2.2) (hc : cs.sc = (c : Int)) (hc8 : c ≤ 8) (hv : v < 2 ^ c) (hT : MTX T cs.ru ft fr) (H71 : h.2.2 71 = mo s) (H72 : h.2.2 72 = ar 456 A) (H74 : h.2.2 74 = ar 2720 T) (hN : MVN h) (kt : fit (fdm fr (cs.mk p) e.2.2.2.2 (p : Int) cs.dy (cs.sl p) 0 c) (fdm fr (cs.mk p) e.2.2.2.2 (p : Int) cs.dy (cs.sl p) 1 c) (2 ^ c) v = true → ∀ h2, MVN h2 → Fr [77, 78, 79] h h2 → Q [xI 1] h2) (kf : fit (fdm fr (cs.mk p) e.2.2.2.2 (p : Int) cs.dy (cs.sl p) 0 c) (fdm fr (cs.mk p) e.2.2.2.2 (p : Int) cs.dy (cs.sl p) 1 c) (2 ^ c) v = false → ∀ h2, MVN h2 → Fr [77, 78, 79] h h2 → Q [xI 0] h2) : hc_wp (d + 6) mX10_canBe 0 [xR 71, xI (p : Int), xI (v : Int), none, none] [] h Q := by
  refine wp_go rfl rfl ?_
  refine wp_go rfl rfl ?_
  refine wp_cv rfl rfl rfl H71 rfl rfl rfl ?_
  refine c_marksOf (p := p) H71 H72 (by omega) ?_
  rw [H.mkv p (by omega)]
  refine e_istn (L' := [xR 71, xI (p : Int), xI (v : Int), xI (cs.mk p), none]) rfl rfl rfl ?_
  refine wp_go rfl rfl ?_
  refine e_ist (L' := [xR 71, xI (p : Int), xI (v : Int), xI (cs.mk p), xI 0]) rfl rfl rfl ?_
  exact l_mcb hs H hp hsn hc hc8 hv hT kt kf (c + 1) 0 h (by omega) (fun i hi => absurd hi (by omega)) H71 H72 H74 hN Fr.rf
set_option maxRecDepth 100000 in
theorem l_mrub {d : Nat} {h0 : hc_H} {Q : List hc_V → hc_H → Prop} {p c : Nat} {k0 : Int} {ft fr : Option ef} {s A T : Nat → Int} {cs : cT} {e : dX} (hs : cOK cs) (H : RA A cs e) (hp : p < 8) (hsn : SN e.2.2.2.2) (hc : cs.sc = (c : Int)) (hc8 : c ≤ 8) (hT : MTX T cs.ru ft fr) : ∀ (g v : Nat) (n : Int) (h : hc_H), v + g = 2 ^ c → (0 ≤ n ∧ n ≤ (v : Int)) → h.2.2 71 = mo s → h.2.2 72 = ar 456 A → h.2.2 74 = ar 2720 T → MVN h → Fr [77, 78, 79] h0 h → (∀ h2, MVN h2 → Fr [77, 78, 79] h0 h2 → Q [xI (wsr (fun v => fit (fdm fr (cs.mk p) e.2.2.2.2 (p : Int) cs.dy (cs.sl p) 0 c) (fdm fr (cs.mk p) e.2.2.2.2 (p : Int) cs.dy (cs.sl p) 1 c) (2 ^ c) v) k0 g v n)] h2) → hc_wp (d + 7) mX10_rubbed 20 [xR 71, xI (p : Int), xI k0, xI n, xI (v : Int)] [] h Q := by
  have h28 : 2 ^ c ≤ 256 := Nat.pow_le_pow_right (n := 2) (by decide) hc8
  intro g
  induction g with
  | zero =>
    intro v n h hj hnb H71 H72 H74 hN HF k
    refine wp_go rfl rfl ?_
    refine wp_go rfl rfl ?_
    refine wp_go rfl rfl ?_
    refine e_get rfl H71 rfl rfl ?_
    refine wp_go rfl rfl ?_
    refine e_aldE (p := 9) rfl H72 rfl ⟨by omega, by omega⟩ ?_
    refine wp_go rfl rfl ?_
    rw [show A 9 = (c : Int) from H.1.2.2.2.2.2.2.2.2.2.trans hc, shl1 c hc8]
    refine e_cge rfl (fun c31 => ?_) (fun c31 => absurd c31 (by omega))
    refine wp_go rfl rfl ?_
    refine wp_go rfl rfl ?_
    refine e_cne rfl (fun c66 => ?_) (fun c66 => ?_)
    · skip
      refine wp_go rfl rfl ?_
      refine wp_ret rfl rfl ?_
      rw [wsr, if_neg (by omega)] at k
      exact k h hN HF
    · skip
      refine wp_go rfl rfl ?_
      refine wp_go rfl rfl ?_
      refine wp_ret rfl rfl ?_
      rw [wsr, if_pos (by omega)] at k
      exact k h hN HF
  | succ g ih =>
    intro v n h hj hnb H71 H72 H74 hN HF k
    refine wp_go rfl rfl ?_
    refine wp_go rfl rfl ?_
    refine wp_go rfl rfl ?_
    refine e_get rfl H71 rfl rfl ?_
    refine wp_go rfl rfl ?_
    refine e_aldE (p := 9) rfl H72 rfl ⟨by omega, by omega⟩ ?_
    refine wp_go rfl rfl ?_
    rw [show A 9 = (c : Int) from H.1.2.2.2.2.2.2.2.2.2.trans hc, shl1 c hc8]
    refine e_cge rfl (fun c31 => absurd c31 (by omega)) (fun c31 => ?_)
    refine wp_go rfl rfl ?_
    refine wp_go rfl rfl ?_
    refine wp_go rfl rfl ?_
    refine wp_cv rfl rfl rfl H71 rfl rfl rfl ?_
    refine c_mcanb (d := d) (v := v) hs H hp hsn hc hc8 (by omega) hT H71 H72 H74 hN (fun q38 h2 N2 F2 => ?_) (fun q38 h2 N2 F2 => ?_)
    · skip
      refine wp_go rfl rfl ?_
      refine wp_go rfl rfl ?_
      refine wp_go rfl rfl ?_
      refine e_cne rfl (fun c49 => ?_) (fun c49 => ?_)
      · skip
        refine e_inc (L' := [xR 71, xI (p : Int), xI k0, xI (n + 1), xI (v : Int)]) rfl rfl (by omega) rfl ?_
        refine e_inc (L' := [xR 71, xI (p : Int), xI k0, xI (n + 1), xI ((v : Int) + 1)]) rfl rfl (by omega) rfl ?_
        refine wp_go rfl rfl ?_
        rw [wsr, if_pos q38, if_neg c49] at k
        exact ih (v + 1) _ h2 (by omega) (by omega) ((F2.2.2 71 rfl).trans H71) ((F2.2.2 72 rfl).trans H72) ((F2.2.2 74 rfl).trans H74) N2 (HF.tr F2 (fun _ z => z)) k
      · skip
        refine wp_go rfl rfl ?_
        refine wp_ret rfl rfl ?_
        rw [wsr, if_pos q38, if_pos c49] at k
        exact k h2 N2 (HF.tr F2 (fun _ z => z))
    · skip
      refine wp_go rfl rfl ?_
      refine wp_go rfl rfl ?_
      refine e_inc (L' := [xR 71, xI (p : Int), xI k0, xI n, xI ((v : Int) + 1)]) rfl rfl (by omega) rfl ?_
      refine wp_go rfl rfl ?_
      rw [wsr, if_neg (by rw [q38]; decide)] at k
      exact ih (v + 1) _ h2 (by omega) (by omega) ((F2.2.2 71 rfl).trans H71) ((F2.2.2 72 rfl).trans H72) ((F2.2.2 74 rfl).trans H74) N2 (HF.tr F2 (fun _ z => z)) k
set_option maxRecDepth 100000 in
theorem c_mrubbed {d : Nat} {h : hc_H} {Q : List hc_V → hc_H → Prop} {c : Nat} {u k0 : Int} {ft fr : Option ef} {s A T : Nat → Int} {cs : cT} {e : dX} (hs : cOK cs) (H : RA A cs e) (hsn : SN e.2.2.2.2) (hc : cs.sc = (c : Int)) (hc8 : c ≤ 8) (hT : MTX T cs.ru ft fr) (H71 : h.2.2 71 = mo s) (H72 : h.2.2 72 = ar 456 A) (H74 : h.2.2 74 = ar 2720 T) (hN : MVN h) (kf : ¬ ((0 ≤ u ∧ u < (cs.nf : Int)) ∧ -1 ≤ k0) → Q [xI (-1)] h) (kt : (0 ≤ u ∧ u < (cs.nf : Int)) → -1 ≤ k0 → ∀ h2, MVN h2 → Fr [77, 78, 79] h h2 → Q [xI (wsr (fun v => fit (fdm fr (cs.mk (Int.toNat u)) e.2.2.2.2 u cs.dy (cs.sl (Int.toNat u)) 0 c) (fdm fr (cs.mk (Int.toNat u)) e.2.2.2.2 u cs.dy (cs.sl (Int.toNat u)) 1 c) (2 ^ c) v) k0 (2 ^ c) 0 0)] h2) : hc_wp (d + 7) mX10_rubbed 0 [xR 71, xI u, xI k0, none, none] [] h Q := by
  have hn8 := hs.1
  refine wp_go rfl rfl ?_
  refine wp_go rfl rfl ?_
  refine wp_cv rfl rfl rfl H71 rfl rfl rfl ?_
  refine c_misF (nf := cs.nf) H71 H72 H.1.1 hs.1 (fun q2 => ?_) (fun q2 => ?_)
  · skip
    refine wp_go rfl rfl ?_
    refine wp_go rfl rfl ?_
    refine wp_go rfl rfl ?_
    refine e_cge rfl (fun c10 => ?_) (fun c10 => ?_)
    · skip
      obtain ⟨p, hp⟩ : ∃ p : Nat, u = (p : Int) := ⟨Int.toNat u, by omega⟩
      subst hp
      refine wp_go rfl rfl ?_
      refine e_istn (L' := [xR 71, xI (p : Int), xI k0, xI 0, none]) rfl rfl rfl ?_
      refine wp_go rfl rfl ?_
      refine e_ist (L' := [xR 71, xI (p : Int), xI k0, xI 0, xI 0]) rfl rfl rfl ?_
      exact l_mrub (d := d) (p := p) hs H (by omega) hsn hc hc8 hT (2 ^ c) 0 0 h (by omega) (by omega) H71 H72 H74 hN Fr.rf (fun h2 N2 F2 => kt (by omega) (by omega) h2 N2 F2)
    · skip
      refine wp_go rfl rfl ?_
      refine wp_ret rfl rfl ?_
      exact kf (by omega)
  · skip
    refine wp_go rfl rfl ?_
    refine wp_go rfl rfl ?_
    refine wp_ret rfl rfl ?_
    exact kf (by omega)
