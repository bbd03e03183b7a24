/-! the reference: a text -/
theorem sCl_ok {K N : Nat → Int} {v : ef} {i nc : Nat} {ft fr : Option ef} {j : Nat} {ft2 fr2 : Option ef} (h : sCl K N v i nc ft fr = .inr (j, ft2, fr2)) : (10 ≤ K i ∧ K i ≤ 14) ∧ (K i = 10 → ft = none ∧ ft2.isSome = true) ∧ (K i ≠ 10 → ft2 = ft) ∧ (K i = 11 → fr = none ∧ fr2.isSome = true) ∧ (K i ≠ 11 → fr2 = fr) := by
  unfold sCl at h
  split at h
  · cases h
  · rename_i c1
    split at h
    · cases h
    · rename_i c2
      split at h
      · cases h
      · split at h
        · rename_i c4
          have h10 : K i = 10 → ft = none := by
            intro z
            cases ft with
            | none => rfl
            | some x => exact absurd (Or.inl ⟨z, rfl⟩) c2
          have h11 : K i = 11 → fr = none := by
            intro z
            cases fr with
            | none => rfl
            | some x => exact absurd (Or.inr ⟨z, rfl⟩) c2
          split at h
          · split at h
            · simp only [Sum.inr.injEq, Prod.mk.injEq] at h
              obtain ⟨_, e1, e2⟩ := h
              refine ⟨Decidable.of_not_not c1, fun z => ⟨h10 z, ?_⟩, fun z => ?_, fun z => ⟨h11 z, ?_⟩, fun z => ?_⟩
              · rw [← e1, if_pos z]; rfl
              · rw [← e1, if_neg z]
              · rw [← e2, if_pos z]; rfl
              · rw [← e2, if_neg z]
            · cases h
          · cases h
          · cases h
        · rename_i c4
          split at h
          · cases h
          · split at h
            · simp only [Sum.inr.injEq, Prod.mk.injEq] at h
              obtain ⟨_, e1, e2⟩ := h
              exact ⟨Decidable.of_not_not c1, fun z => absurd z (by omega), fun _ => e1.symm, fun z => absurd z (by omega), fun _ => e2.symm⟩
            · cases h
def TXM (K N T : Nat → Int) (t0 nc w : Nat) (ft fr : Option ef) (st : Nat → Nat) : Prop := ∀ k, k < nc → (10 ≤ K (st k) ∧ K (st k) ≤ 14) ∧ CLM K N T (t0 + 1 + 3 * k) (st k) ∧ ∃ a b : Nat, b ≤ w ∧ LWM K T (t0 + 1 + 3 * k) (t0 + 75) (st k) a b ft fr
def TXF (K : Nat → Int) (nc : Nat) (ft fr : Option ef) (st : Nat → Nat) : Prop := (ft.isSome = true → ∃ k, k < nc ∧ K (st k) = 10) ∧ (ft = none → ∀ k, k < nc → K (st k) ≠ 10) ∧ (fr.isSome = true → ∃ k, k < nc ∧ K (st k) = 11) ∧ (fr = none → ∀ k, k < nc → K (st k) ≠ 11)
theorem st_new {st : Nat → Nat} {nc i : Nat} : hc_u st nc i nc = i := if_pos rfl
theorem st_old {st : Nat → Nat} {nc i k : Nat} (h : k < nc) : hc_u st nc i k = st k := if_neg (by omega)
theorem TXF.step {K N : Nat → Int} {v : ef} {i nc j : Nat} {ft fr ft2 fr2 : Option ef} {st : Nat → Nat} (H : TXF K nc ft fr st) (h : sCl K N v i nc ft fr = .inr (j, ft2, fr2)) : TXF K (nc + 1) ft2 fr2 (hc_u st nc i) := by
  obtain ⟨a1, a2, a3, a4⟩ := H
  obtain ⟨b0, b1, b2, b3, b4⟩ := sCl_ok h
  refine ⟨fun z => ?_, fun z k hk => ?_, fun z => ?_, fun z k hk => ?_⟩
  · by_cases c : K i = 10
    · exact ⟨nc, by omega, by rw [st_new]; exact c⟩
    · rw [b2 c] at z
      obtain ⟨k, h1, h2⟩ := a1 z
      exact ⟨k, by omega, by rw [st_old h1]; exact h2⟩
  · by_cases c : K i = 10
    · have := (b1 c).2
      rw [z] at this
      cases this
    · rcases Nat.lt_or_ge k nc with q | q
      · rw [st_old q]
        exact a2 ((b2 c).symm.trans z) k q
      · rw [show k = nc by omega, st_new]
        exact c
  · by_cases c : K i = 11
    · exact ⟨nc, by omega, by rw [st_new]; exact c⟩
    · rw [b4 c] at z
      obtain ⟨k, h1, h2⟩ := a3 z
      exact ⟨k, by omega, by rw [st_old h1]; exact h2⟩
  · by_cases c : K i = 11
    · have := (b3 c).2
      rw [z] at this
      cases this
    · rcases Nat.lt_or_ge k nc with q | q
      · rw [st_old q]
        exact a4 ((b4 c).symm.trans z) k q
      · rw [show k = nc by omega, st_new]
        exact c
theorem CLM.eq {K N T T2 : Nat → Int} {x i : Nat} (H : CLM K N T x i) (h : ∀ a, x ≤ a → a < x + 3 → T2 a = T a) : CLM K N T2 x i := by
  unfold CLM at H ⊢
  rw [h _ (by omega) (by omega), h _ (by omega) (by omega), h _ (by omega) (by omega)]
  exact H
theorem TXM.step {K N T T2 : Nat → Int} {v : ef} {t0 i nc j w w2 : Nat} {ft fr ft2 fr2 : Option ef} {st : Nat → Nat} (H : TXM K N T t0 nc w ft fr st) (F : TXF K nc ft fr st) (h : sCl K N v i nc ft fr = .inr (j, ft2, fr2)) (hw : w ≤ w2) (hnc : nc < 24) (hc : CLM K N T2 (t0 + 1 + 3 * nc) i) (hl : LWM K T2 (t0 + 1 + 3 * nc) (t0 + 75) i w w2 ft2 fr2) (hs : ∀ a, a < t0 ∨ t0 + 680 ≤ a ∨ (t0 < a ∧ a < t0 + 1 + 3 * nc) ∨ (t0 + 75 ≤ a ∧ a < t0 + 75 + 2 * w) → T2 a = T a) : TXM K N T2 t0 (nc + 1) w2 ft2 fr2 (hc_u st nc i) := by
  obtain ⟨b0, b1, b2, b3, b4⟩ := sCl_ok h
  intro k hk
  rcases Nat.lt_or_ge k nc with q | q
  · rw [st_old q]
    obtain ⟨c1, c2, a, b, c3, c4⟩ := H k q
    refine ⟨c1, c2.eq (fun a h1 h2 => hs a (by omega)), a, b, by omega, fun z => ?_, fun z => ?_⟩
    · obtain ⟨d1, d2, V, d3, d4⟩ := c4.1 z
      have hb := d4.1
      refine ⟨(hs _ (by omega)).trans d1, (hs _ (by omega)).trans d2, V, ?_, d4.eq (fun x h1 h2 => hs x (by omega))⟩
      rw [b2 (fun y => absurd z (F.2.1 (b1 y).1 k q))]
      exact d3
    · obtain ⟨d1, d2, V, d3, d4⟩ := c4.2 z
      refine ⟨(hs _ (by omega)).trans d1, (hs _ (by omega)).trans d2, V, ?_, d4.eq (fun x h1 h2 => hs x (by omega))⟩
      rw [b4 (fun y => absurd z (F.2.2.2 (b3 y).1 k q))]
      exact d3
  · rw [show k = nc by omega, st_new]
    exact ⟨b0, hc, w, w2, Nat.le_refl _, hl⟩
set_option maxRecDepth 100000 in
theorem c_mcl {d : Nat} {h : hc_H} {Q : List hc_V → hc_H → Prop} {B : Nat → Int} {n i w t0 nc : Nat} {v : ef} {ft fr : Option ef} {r : (Int × Nat) ⊕ (Nat × Option ef × Option ef)} {s T f : Nat → Int} (H : BY B) (hn : n ≤ 300) (hr : sCl (tK B n) (tN B n) v i nc ft fr = r) (H71 : h.2.2 71 = mo s) (H74 : h.2.2 74 = ar 2720 T) (H75 : h.2.2 75 = ar 300 B) (H76 : h.2.2 76 = ar 160 f) (hTA : TA B n s i) (e12 : s 12 = (t0 : Int)) (e14 : s 14 = (w : Int)) (e18 : s 18 = 0) (e22 : s 22 = onc ft fr) (hnc : T t0 = (nc : Int)) (hb : w ≤ i ∧ i ≤ 300 ∧ t0 ≤ 2040 ∧ nc ≤ 24) (kok : ∀ (j : Nat) (ft2 fr2 : Option ef), r = .inr (j, ft2, fr2) → ∀ (h2 : hc_H) (s2 T2 f2 : Nat → Int) (w2 : Nat), h2.2.2 71 = mo s2 → h2.2.2 74 = ar 2720 T2 → h2.2.2 76 = ar 160 f2 → TA B n s2 j → s2 14 = (w2 : Int) → s2 18 = 0 → s2 22 = onc ft2 fr2 → T2 t0 = ((nc + 1 : Nat) : Int) → (j ≤ 300 ∧ w ≤ w2 ∧ w2 ≤ j ∧ nc < 24) → CLM (tK B n) (tN B n) T2 (t0 + 1 + 3 * nc) i → LWM (tK B n) T2 (t0 + 1 + 3 * nc) (t0 + 75) i w w2 ft2 fr2 → (∀ a, a < t0 ∨ t0 + 680 ≤ a ∨ (t0 < a ∧ a < t0 + 1 + 3 * nc) ∨ (t0 + 75 ≤ a ∧ a < t0 + 75 + 2 * w) → T2 a = T a) → ME mcl s s2 → Fr mfl h h2 → Q [xI 0] h2) (kf : ∀ (fl : Int) (k : Nat), r = .inl (fl, k) → ∀ (h2 : hc_H) (s2 T2 f2 : Nat → Int), h2.2.2 71 = mo s2 → h2.2.2 74 = ar 2720 T2 → h2.2.2 76 = ar 160 f2 → s2 8 = ((tP B n k : Nat) : Int) → fl ≠ 0 → (∀ a, a < t0 ∨ t0 + 680 ≤ a → T2 a = T a) → ME mcl s s2 → Fr mfl h h2 → Q [xI fl] h2) : hc_wp (d + 8) mX10_clause 0 [xR 71, none, none, none, none, none] [] h Q := by
  by_cases hk : 10 ≤ tK B n i ∧ tK B n i ≤ 14
  · have hc : tK B n i = 10 ∨ tK B n i = 11 ∨ tK B n i = 12 ∨ tK B n i = 13 ∨ tK B n i = 14 := by omega
    rcases hc with hc | hc | hc | hc | hc
    · exact c_cl10 H hn hr H71 H74 H75 H76 hTA e12 e14 e18 e22 hnc hb hc kok kf
    · exact c_cl11 H hn hr H71 H74 H75 H76 hTA e12 e14 e18 e22 hnc hb hc kok kf
    · exact c_cl12 H hn hr H71 H74 H75 H76 hTA e12 e14 e18 e22 hnc hb hc kok kf
    · exact c_cl13 H hn hr H71 H74 H75 H76 hTA e12 e14 e18 e22 hnc hb hc kok kf
    · exact c_cl14 H hn hr H71 H74 H75 H76 hTA e12 e14 e18 e22 hnc hb hc kok kf
  · skip
    refine wp_go rfl rfl ?_
    refine wp_cv rfl rfl rfl H71 rfl rfl rfl ?_
    refine c_sortOf H71 hTA.2.2.2.1 ?_
    rw [if_neg hk]
    refine e_istn (L' := [xR 71, xI (-1), none, none, none, none]) rfl rfl rfl ?_
    refine wp_go rfl rfl ?_
    refine wp_go rfl rfl ?_
    refine wp_go rfl rfl ?_
    refine wp_ret rfl rfl ?_
    rw [sCl, if_pos hk] at hr
    exact kf 1 i hr.symm h s T f H71 H74 H76 hTA.2.2.1 (by decide) (fun _ _ => rfl) ME.rf Fr.rf
set_option maxRecDepth 100000 in
theorem l_mrt {B : Nat → Int} {n t0 : Nat} (H : BY B) (hn : n ≤ 300) {v : ef} {r : (Int × Nat) ⊕ (Nat × Option ef × Option ef × (Nat → Nat))} {d : Nat} {h0 : hc_H} {s0 T0 : Nat → Int} {Q : List hc_V → hc_H → Prop} (ht0 : t0 ≤ 2040) (kok : ∀ (nc : Nat) (ft fr : Option ef) (st : Nat → Nat), r = .inr (nc, ft, fr, st) → ∀ (h2 : hc_H) (s2 T2 f2 : Nat → Int) (w : Nat), h2.2.2 71 = mo s2 → h2.2.2 74 = ar 2720 T2 → h2.2.2 76 = ar 160 f2 → T2 t0 = (nc : Int) → nc ≤ 24 → w ≤ 300 → TXM (tK B n) (tN B n) T2 t0 nc w ft fr st → TXF (tK B n) nc ft fr st → (∀ a, a < t0 ∨ t0 + 680 ≤ a → T2 a = T0 a) → ME mcl s0 s2 → Fr mfl h0 h2 → Q [xI 0] h2) (kf : ∀ (fl : Int) (k : Nat), r = .inl (fl, k) → ∀ (h2 : hc_H) (s2 T2 f2 : Nat → Int), h2.2.2 71 = mo s2 → h2.2.2 74 = ar 2720 T2 → h2.2.2 76 = ar 160 f2 → s2 8 = ((tP B n k : Nat) : Int) → fl ≠ 0 → (∀ a, a < t0 ∨ t0 + 680 ≤ a → T2 a = T0 a) → ME mcl s0 s2 → Fr mfl h0 h2 → Q [xI fl] h2) : ∀ (g i nc : Nat) (ft fr : Option ef) (st : Nat → Nat) (h : hc_H) (s T f : Nat → Int) (w : Nat) (l1 : hc_V), sTx (tK B n) (tN B n) v g i nc ft fr st = r → h.2.2 71 = mo s → h.2.2 74 = ar 2720 T → h.2.2 75 = ar 300 B → h.2.2 76 = ar 160 f → TA B n s i → s 12 = (t0 : Int) → s 14 = (w : Int) → s 18 = 0 → s 22 = onc ft fr → T t0 = (nc : Int) → (nc + g = 25 ∧ nc ≤ 24 ∧ w ≤ i ∧ i ≤ 300) → TXM (tK B n) (tN B n) T t0 nc w ft fr st → TXF (tK B n) nc ft fr st → (∀ a, a < t0 ∨ t0 + 680 ≤ a → T a = T0 a) → ME mcl s0 s → Fr mfl h0 h → hc_wp (d + 9) mX10_readText 48 [xR 71, l1] [] h Q := by
  intro g
  induction g with
  | zero =>
    intro i nc ft fr st h s T f w l1 hr H71 H74 H75 H76 hTA e12 e14 e18 e22 hnc hb
    exact absurd hb (by omega)
  | succ g ih =>
    intro i nc ft fr st h s T f w l1 hr H71 H74 H75 H76 hTA e12 e14 e18 e22 hnc hb TM TF hT HM HF
    refine wp_go rfl rfl ?_
    refine e_get rfl H71 rfl rfl ?_
    refine e_ifeq rfl (fun c52 => ?_) (fun c52 => ?_)
    · skip
      refine wp_go rfl rfl ?_
      refine wp_ret rfl rfl ?_
      rw [sTx, if_pos ((mks_0 hTA.2.2.2.1).1 c52)] at hr
      subst hr
      exact kok nc ft fr st rfl h s T f w H71 H74 H76 hnc (by omega) (by omega) TM TF hT HM HF
    · skip
      refine wp_go rfl rfl ?_
      refine wp_cv rfl rfl rfl H71 rfl rfl rfl ?_
      rw [sTx, if_neg (fun z => c52 ((mks_0 hTA.2.2.2.1).2 z))] at hr
      refine c_mcl (v := v) H hn rfl H71 H74 H75 H76 hTA e12 e14 e18 e22 hnc (by omega) (fun j ft2 fr2 e h2 s2 T2 f2 w2 A1 A2 A3 A4 A5 A6 A7 A8 A9 A10 A11 A12 A13 A14 => ?_) (fun fl k e h2 s2 T2 f2 A1 A2 A3 A4 A5 A6 A7 A8 => ?_)
      · skip
        refine e_istn (L' := [xR 71, xI 0]) rfl rfl rfl ?_
        refine wp_go rfl rfl ?_
        refine wp_go rfl rfl ?_
        refine wp_go rfl rfl ?_
        rw [e] at hr
        dsimp only at hr
        exact ih j (nc + 1) ft2 fr2 (hc_u st nc i) h2 s2 T2 f2 w2 _ hr A1 A2 ((A14.2.2 75 rfl).trans H75) A3 A4 ((A13 12 rfl).trans e12) A5 A6 A7 A8 (by omega) (TM.step TF e A9.2.1 A9.2.2.2 A10 A11 A12) (TF.step e) (fun a ha => (A12 a (by omega)).trans (hT a ha)) (HM.tr A13 (fun _ z => z)) (HF.tr A14 (fun _ z => z))
      · skip
        refine e_istn (L' := [xR 71, xI fl]) rfl rfl rfl ?_
        refine wp_go rfl rfl ?_
        refine e_ifeq rfl (fun c61 => absurd c61 A5) (fun c61 => ?_)
        refine wp_go rfl rfl ?_
        refine wp_ret rfl rfl ?_
        rw [e] at hr
        dsimp only at hr
        exact kf fl k hr.symm h2 s2 T2 f2 A1 A2 A3 A4 A5 (fun a ha => (A6 a ha).trans (hT a ha)) (HM.tr A7 (fun _ z => z)) (HF.tr A8 (fun _ z => z))
set_option maxRecDepth 100000 in
theorem c_readText {d : Nat} {h : hc_H} {Q : List hc_V → hc_H → Prop} {B : Nat → Int} {n tc : Nat} {v : ef} {r : (Int × Nat) ⊕ (Nat × Option ef × Option ef × (Nat → Nat))} {s T f A : Nat → Int} (H : BY B) (hn : n ≤ 300) (hr : sTx (tK B n) (tN B n) v 25 0 0 none none (fun _ => 0) = r) (H71 : h.2.2 71 = mo s) (H72 : h.2.2 72 = ar 456 A) (H74 : h.2.2 74 = ar 2720 T) (H75 : h.2.2 75 = ar 300 B) (H76 : h.2.2 76 = ar 160 f) (e4 : s 4 = (n : Int)) (hA : A 5 = (tc : Int)) (htc : tc ≤ 3) (kok : ∀ (nc : Nat) (ft fr : Option ef) (st : Nat → Nat), r = .inr (nc, ft, fr, st) → ∀ (h2 : hc_H) (s2 T2 f2 : Nat → Int) (w : Nat), h2.2.2 71 = mo s2 → h2.2.2 74 = ar 2720 T2 → h2.2.2 76 = ar 160 f2 → T2 (680 * tc) = (nc : Int) → nc ≤ 24 → w ≤ 300 → TXM (tK B n) (tN B n) T2 (680 * tc) nc w ft fr st → TXF (tK B n) nc ft fr st → (∀ a, a < (680 * tc) ∨ (680 * tc) + 680 ≤ a → T2 a = T a) → ME [7, 8, 9, 10, 11, 12, 14, 17, 18, 19, 20, 21, 22] s s2 → Fr mfl h h2 → Q [xI 0] h2) (kf : ∀ (fl : Int) (k : Nat), r = .inl (fl, k) → ∀ (h2 : hc_H) (s2 T2 f2 : Nat → Int), h2.2.2 71 = mo s2 → h2.2.2 74 = ar 2720 T2 → h2.2.2 76 = ar 160 f2 → s2 8 = ((tP B n k : Nat) : Int) → fl ≠ 0 → (∀ a, a < (680 * tc) ∨ (680 * tc) + 680 ≤ a → T2 a = T a) → ME [7, 8, 9, 10, 11, 12, 14, 17, 18, 19, 20, 21, 22] s s2 → Fr mfl h h2 → Q [xI fl] h2) : hc_wp (d + 9) mX10_readText 0 [xR 71, none] [] h Q := by
  refine wp_go rfl rfl ?_
  refine wp_go rfl rfl ?_
  refine wp_go rfl rfl ?_
  refine e_get rfl H71 rfl rfl ?_
  refine wp_go rfl rfl ?_
  refine e_aldE (p := 5) rfl H72 rfl ⟨by omega, by omega⟩ ?_
  rw [hA]
  refine e_imul rfl (by omega) ?_
  rw [show (680 : Int) * (tc : Int) = ((680 * tc : Nat) : Int) by omega]
  refine e_put (fs' := [xR 72, xR 73, xR 74, xR 75, xI (s 4), xI (s 5), xI (s 6), xI (s 7), xI (s 8), xI (s 9), xI (s 10), xL (s 11), xI ((680 * tc : Nat) : Int), xI (s 13), xI (s 14), xI (s 15), xR 76, xI (s 17), xI (s 18), xI (s 19), xI (s 20), xI (s 21), xI (s 22), xR 77, xR 78, xR 79, xR 80, xR 81, xR 82, xR 83, xI (s 30), xR 84, xR 85, xR 86, xR 87, xR 88, xR 89, xR 90]) rfl H71 rfl rfl ?_
  refine wp_go rfl rfl ?_
  refine e_get rfl rfl rfl rfl ?_
  refine wp_go rfl rfl ?_
  refine e_get rfl rfl rfl rfl ?_
  refine wp_go rfl rfl ?_
  refine e_iastE (p := 680 * tc) rfl H74 ⟨by omega, by omega⟩ ?_
  refine wp_go rfl rfl ?_
  refine wp_go rfl rfl ?_
  refine e_put (fs' := [xR 72, xR 73, xR 74, xR 75, xI (s 4), xI (s 5), xI (s 6), xI (s 7), xI (s 8), xI (s 9), xI (s 10), xL (s 11), xI ((680 * tc : Nat) : Int), xI (s 13), xI 0, xI (s 15), xR 76, xI (s 17), xI (s 18), xI (s 19), xI (s 20), xI (s 21), xI (s 22), xR 77, xR 78, xR 79, xR 80, xR 81, xR 82, xR 83, xI (s 30), xR 84, xR 85, xR 86, xR 87, xR 88, xR 89, xR 90]) rfl rfl rfl rfl ?_
  refine wp_go rfl rfl ?_
  refine wp_go rfl rfl ?_
  refine e_put (fs' := [xR 72, xR 73, xR 74, xR 75, xI (s 4), xI (s 5), xI (s 6), xI (s 7), xI (s 8), xI (s 9), xI (s 10), xL (s 11), xI ((680 * tc : Nat) : Int), xI (s 13), xI 0, xI (s 15), xR 76, xI (s 17), xI 0, xI (s 19), xI (s 20), xI (s 21), xI (s 22), xR 77, xR 78, xR 79, xR 80, xR 81, xR 82, xR 83, xI (s 30), xR 84, xR 85, xR 86, xR 87, xR 88, xR 89, xR 90]) rfl rfl rfl rfl ?_
  refine wp_go rfl rfl ?_
  refine wp_go rfl rfl ?_
  refine e_put (fs' := [xR 72, xR 73, xR 74, xR 75, xI (s 4), xI (s 5), xI (s 6), xI (s 7), xI (s 8), xI (s 9), xI (s 10), xL (s 11), xI ((680 * tc : Nat) : Int), xI (s 13), xI 0, xI (s 15), xR 76, xI (s 17), xI 0, xI (s 19), xI (s 20), xI (s 21), xI 0, xR 77, xR 78, xR 79, xR 80, xR 81, xR 82, xR 83, xI (s 30), xR 84, xR 85, xR 86, xR 87, xR 88, xR 89, xR 90]) rfl rfl rfl rfl ?_
  refine wp_go rfl rfl ?_
  refine wp_go rfl rfl ?_
  refine e_put (fs' := [xR 72, xR 73, xR 74, xR 75, xI (s 4), xI (s 5), xI (s 6), xI 0, xI (s 8), xI (s 9), xI (s 10), xL (s 11), xI ((680 * tc : Nat) : Int), xI (s 13), xI 0, xI (s 15), xR 76, xI (s 17), xI 0, xI (s 19), xI (s 20), xI (s 21), xI 0, xR 77, xR 78, xR 79, xR 80, xR 81, xR 82, xR 83, xI (s 30), xR 84, xR 85, xR 86, xR 87, xR 88, xR 89, xR 90]) rfl rfl rfl rfl ?_
  refine wp_go rfl rfl ?_
  refine wp_cv rfl rfl rfl rfl rfl rfl rfl ?_
  refine c_nextT (i := 0) (s := (hc_u (hc_u (hc_u (hc_u (hc_u s 12 ((680 * tc : Nat) : Int)) 14 0) 18 0) 22 0) 7 0)) H hn rfl e4 rfl H75 (fun h1 s1 A71 A1 AME AFR => ?_)
  have m1 : ME [7, 8, 9, 10, 11, 12, 14, 17, 18, 19, 20, 21, 22] s s1 := ((((((ME.rf (l := [7, 8, 9, 10, 11, 12, 14, 17, 18, 19, 20, 21, 22])).u (a := 12) rfl).u (a := 14) rfl).u (a := 18) rfl).u (a := 22) rfl).u (a := 7) rfl).tr (AME.mono (nin_sub rfl)) (fun _ z => z)
  have f1 : Fr mfl h h1 := (((((((Fr.rf (l := mfl)).wr rfl).wr rfl).wr rfl).wr rfl).wr rfl).wr rfl).tr (Fr.mono AFR (nin_sub rfl)) (fun _ z => z)
  refine l_mrt (d := d) (t0 := 680 * tc) (s0 := s1) (T0 := T) (h0 := h1) H hn (by omega) (fun nc ft fr st e h2 s2 T2 f2 w B1 B2 B3 B4 B5 B6 B7 B8 B9 B10 B11 => ?_) (fun fl k e h2 s2 T2 f2 B1 B2 B3 B4 B5 B6 B7 B8 => ?_) 25 0 0 none none (fun _ => 0) h1 s1 (hc_u T (680 * tc) 0) f 0 _ hr A71 ((AFR.2.2 74 rfl).trans rfl) ((AFR.2.2 75 rfl).trans H75) ((AFR.2.2 76 rfl).trans H76) A1 ((AME 12 rfl).trans rfl) ((AME 14 rfl).trans rfl) ((AME 18 rfl).trans rfl) ((AME 22 rfl).trans rfl) hu_s (by omega) (fun k hk => absurd hk (by omega)) ⟨fun z => (by cases z), fun _ k hk => absurd hk (by omega), fun z => (by cases z), fun _ k hk => absurd hk (by omega)⟩ (fun a ha => hu_n (by omega)) ME.rf Fr.rf
  · exact kok nc ft fr st e h2 s2 T2 f2 w B1 B2 B3 B4 B5 B6 B7 B8 B9 (m1.tr (B10.mono (nin_sub rfl)) (fun _ z => z)) (f1.tr B11 (fun _ z => z))
  · exact kf fl k e h2 s2 T2 f2 B1 B2 B3 B4 B5 B6 (m1.tr (B7.mono (nin_sub rfl)) (fun _ z => z)) (f1.tr B8 (fun _ z => z))
