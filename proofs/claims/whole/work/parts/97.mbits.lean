/-! the reference: sets of folk as bits -/
theorem b_tan' : ∀ s : Fin 256, ∀ p : Fin 8, hc_and (s.1 : Int) (hc_shl 1 (p.1 : Int)) = if Nat.testBit s.1 p.1 = true then ((2 ^ p.1 : Nat) : Int) else 0 := by decide +kernel
theorem b_tan {s p : Nat} (hs : s < 256) (hp : p < 8) : hc_and (s : Int) (hc_shl 1 (p : Int)) = if Nat.testBit s p = true then ((2 ^ p : Nat) : Int) else 0 := b_tan' ⟨s, hs⟩ ⟨p, hp⟩
theorem tz_at' : ∀ s : Fin 256, 1 ≤ s.1 → (tz s.1 < 8 ∧ Nat.testBit s.1 (tz s.1) = true) ∧ ∀ j : Fin 8, j.1 < tz s.1 → Nat.testBit s.1 j.1 = false := by decide +kernel
theorem tz_at {s : Nat} (h1 : 1 ≤ s) (hs : s < 256) : tz s < 8 ∧ Nat.testBit s (tz s) = true := (tz_at' ⟨s, hs⟩ h1).1
theorem tz_lo {s j : Nat} (h1 : 1 ≤ s) (hs : s < 256) (hj : j < tz s) : Nat.testBit s j = false := (tz_at' ⟨s, hs⟩ h1).2 ⟨j, by have := (tz_at' ⟨s, hs⟩ h1).1.1; show j < 8; have e : tz s < 8 := this; omega⟩ hj
