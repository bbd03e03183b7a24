/-! what a read text holds, on both sides -/
def DR (K N : Nat → Int) (i : Nat) : Prop := (K i = 12 → (1 ≤ N (i + 1) ∧ N (i + 1) ≤ 99) ∧ (1 ≤ N (i + 3) ∧ N (i + 3) ≤ 99) ∧ (0 ≤ N (i + 5) ∧ N (i + 5) ≤ 7) ∧ (0 ≤ N (i + 7) ∧ N (i + 7) ≤ 7)) ∧ (K i = 13 → (1 ≤ N (i + 1) ∧ N (i + 1) ≤ 9999) ∧ (0 ≤ N (i + 3) ∧ N (i + 3) ≤ 7)) ∧ (K i = 14 → 1 ≤ N (i + 1) ∧ N (i + 1) ≤ 99)
theorem cN_none {K N : Nat → Int} {lo hi : Int} {i : Nat} {k : Option (Int × Nat)} (h : cN K N lo hi i k = none) : (lo ≤ N i ∧ N i ≤ hi) ∧ k = none := by
  unfold cN at h
  by_cases c : K i = 3
  · rw [if_pos c] at h
    by_cases c2 : lo ≤ N i ∧ N i ≤ hi
    · rw [if_pos c2] at h
      exact ⟨c2, h⟩
    · rw [if_neg c2] at h
      exact nomatch h
  · rw [if_neg c] at h
    exact nomatch h
theorem cX_none {K : Nat → Int} {due : Int} {i : Nat} {k : Option (Int × Nat)} (h : cX K due i k = none) : k = none := by
  unfold cX at h
  by_cases c : K i = due
  · rw [if_pos c] at h
    exact h
  · rw [if_neg c] at h
    exact nomatch h
theorem sDe_dr {K N : Nat → Int} {i : Nat} (hk : 12 ≤ K i ∧ K i ≤ 14) (h : sDe K N i = none) : DR K N i := by
  unfold sDe at h
  by_cases c1 : K i = 12
  · rw [if_pos c1] at h
    have a1 := cN_none h
    have a2 := cN_none (cX_none a1.2)
    have a3 := cN_none (cX_none a2.2)
    have a4 := cN_none (cX_none a3.2)
    exact ⟨fun _ => ⟨a1.1, a2.1, a3.1, a4.1⟩, fun z => absurd z (by omega), fun z => absurd z (by omega)⟩
  · rw [if_neg c1] at h
    by_cases c2 : K i = 13
    · rw [if_pos c2] at h
      have a1 := cN_none h
      have a2 := cN_none (cX_none a1.2)
      exact ⟨fun z => absurd z c1, fun _ => ⟨a1.1, a2.1⟩, fun z => absurd z (by omega)⟩
    · rw [if_neg c2] at h
      have a1 := cN_none h
      exact ⟨fun z => absurd z c1, fun z => absurd z c2, fun _ => a1.1⟩
theorem sCl_dr {K N : Nat → Int} {v : ef} {i nc : Nat} {ft fr : Option ef} {x : Nat × Option ef × Option ef} (h : sCl K N v i nc ft fr = .inr x) : DR K N i := by
  unfold sCl at h
  by_cases c1 : ¬ (10 ≤ K i ∧ K i ≤ 14)
  · rw [if_pos c1] at h
    exact nomatch h
  · rw [if_neg c1] at h
    by_cases c2 : (K i = 10 ∧ ft.isSome = true) ∨ (K i = 11 ∧ fr.isSome = true)
    · rw [if_pos c2] at h
      exact nomatch h
    · rw [if_neg c2] at h
      by_cases c3 : 24 ≤ nc
      · rw [if_pos c3] at h
        exact nomatch h
      · rw [if_neg c3] at h
        by_cases c4 : K i ≤ 11
        · exact ⟨fun z => absurd z (by omega), fun z => absurd z (by omega), fun z => absurd z (by omega)⟩
        · rw [if_neg c4] at h
          cases e : sDe K N i with
          | some y =>
            rw [e] at h
            exact nomatch h
          | none => exact sDe_dr (by omega) e
theorem sTx_dr {K N : Nat → Int} {v : ef} : ∀ (g i nc : Nat) (ft fr : Option ef) (st : Nat → Nat) (nc2 : Nat) (ft2 fr2 : Option ef) (st2 : Nat → Nat), sTx K N v g i nc ft fr st = .inr (nc2, ft2, fr2, st2) → (∀ k, k < nc → DR K N (st k)) → ∀ k, k < nc2 → DR K N (st2 k) := by
  intro g
  induction g with
  | zero =>
    intro i nc ft fr st nc2 ft2 fr2 st2 h H
    rw [sTx] at h
    have h0 := Sum.inr.inj h
    have h1 : nc = nc2 := congrArg (fun z => z.1) h0
    have h2 : st = st2 := congrArg (fun z => z.2.2.2) h0
    rw [← h1, ← h2]
    exact H
  | succ g ih =>
    intro i nc ft fr st nc2 ft2 fr2 st2 h H
    rw [sTx] at h
    by_cases c : K i = 0
    · rw [if_pos c] at h
      have h0 := Sum.inr.inj h
      have h1 : nc = nc2 := congrArg (fun z => z.1) h0
      have h2 : st = st2 := congrArg (fun z => z.2.2.2) h0
      rw [← h1, ← h2]
      exact H
    · rw [if_neg c] at h
      cases e : sCl K N v i nc ft fr with
      | inl x =>
        rw [e] at h
        exact nomatch h
      | inr x =>
        obtain ⟨j, f1, f2⟩ := x
        rw [e] at h
        refine ih j (nc + 1) f1 f2 (hc_u st nc i) nc2 ft2 fr2 st2 h (fun k hk => ?_)
        by_cases c2 : k = nc
        · rw [c2, hu_s]
          exact sCl_dr e
        · rw [hu_n c2]
          exact H k (by omega)
theorem TRX_of {K N T rw_ : Nat → Int} {v : ef} {t nc w : Nat} {ft fr : Option ef} {st : Nat → Nat} (hr : sTx K N v 25 0 0 none none (fun _ => 0) = .inr (nc, ft, fr, st)) (hM : TXM K N T (680 * t) nc w ft fr st) (hW : RWS K N rw_ nc st) (hn : T (680 * t) = (nc : Int)) (h24 : nc ≤ 24) : TRX T t nc rw_ := by
  have D := sTx_dr 25 0 0 none none (fun _ => 0) nc ft fr st hr (fun k hk => absurd hk (by omega))
  refine ⟨hn, h24, fun k hk => ?_⟩
  obtain ⟨m1, ⟨m2, m3, m4, m5⟩, _⟩ := hM k hk
  obtain ⟨w1, w2, w3, w4⟩ := hW k hk
  obtain ⟨d1, d2, d3⟩ := D k hk
  unfold TR1
  rw [w1]
  refine ⟨m2, m1, fun z => ?_, fun z => ?_, fun z => ?_⟩
  · rw [w2 (by omega), w3 (by omega) (by omega), (w4 z).1, (w4 z).2]
    exact ⟨(m3 z).1, (m3 z).2, d1 z⟩
  · rw [w2 (by omega), w3 (by omega) (by omega)]
    exact ⟨(m4 z).1, (m4 z).2, d2 z⟩
  · rw [w2 (by omega)]
    exact ⟨m5 z, d3 z⟩
theorem TXL_of {K N T : Nat → Int} {t0 nc w : Nat} {ft fr : Option ef} {st : Nat → Nat} (hM : TXM K N T t0 nc w ft fr st) (hF : TXF K nc ft fr st) (hw : w ≤ 300) : TXL T t0 nc 10 ft ∧ TXL T t0 nc 11 fr := by
  obtain ⟨f1, f2, f3, f4⟩ := hF
  refine ⟨⟨fun k hk hT => ?_, fun hf => ?_⟩, ⟨fun k hk hT => ?_, fun hf => ?_⟩⟩
  · obtain ⟨m1, ⟨m2, _⟩, a, b, hb, l1, l2⟩ := hM k hk
    obtain ⟨q1, q2, V, q3, q4⟩ := l1 (by omega)
    exact ⟨V, a, b, q3, q1, q2, by omega, q4⟩
  · obtain ⟨k, hk, e⟩ := f1 hf
    exact ⟨k, hk, (hM k hk).2.1.1.trans (by rw [e])⟩
  · obtain ⟨m1, ⟨m2, _⟩, a, b, hb, l1, l2⟩ := hM k hk
    obtain ⟨q1, q2, V, q3, q4⟩ := l2 (by omega)
    exact ⟨V, a, b, q3, q1, q2, by omega, q4⟩
  · obtain ⟨k, hk, e⟩ := f3 hf
    exact ⟨k, hk, (hM k hk).2.1.1.trans (by rw [e])⟩
