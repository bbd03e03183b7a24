/-! sets of folk as numbers: single bits, tried one by one -/
def clr (s p : Nat) : Nat := if Nat.testBit s p = true then s - 2 ^ p else s
def sbt (s p : Nat) : Nat := if Nat.testBit s p = true then s else s + 2 ^ p
theorem b_test' : ∀ s : Fin 256, ∀ p : Fin 8, hc_and (hc_shr (s.1 : Int) (p.1 : Int)) 1 = if Nat.testBit s.1 p.1 = true then 1 else 0 := by decide +kernel
theorem b_clr' : ∀ s : Fin 256, ∀ p : Fin 8, hc_and (s.1 : Int) (hc_xor (hc_shl 1 (p.1 : Int)) (-1)) = ((clr s.1 p.1 : Nat) : Int) := by decide +kernel
theorem b_sbt' : ∀ s : Fin 256, ∀ p : Fin 8, hc_or (s.1 : Int) (hc_shl 1 (p.1 : Int)) = ((sbt s.1 p.1 : Nat) : Int) := by decide +kernel
theorem clr_lt' : ∀ s : Fin 256, ∀ p : Fin 8, clr s.1 p.1 ≤ s.1 ∧ (Nat.testBit s.1 p.1 = true → clr s.1 p.1 < s.1) ∧ sbt s.1 p.1 < 256 := by decide +kernel
theorem b_test {s p : Nat} (hs : s < 256) (hp : p < 8) : hc_and (hc_shr (s : Int) (p : Int)) 1 = if Nat.testBit s p = true then 1 else 0 := b_test' ⟨s, hs⟩ ⟨p, hp⟩
theorem b_clr {s p : Nat} (hs : s < 256) (hp : p < 8) : hc_and (s : Int) (hc_xor (hc_shl 1 (p : Int)) (-1)) = ((clr s p : Nat) : Int) := b_clr' ⟨s, hs⟩ ⟨p, hp⟩
theorem b_sbt {s p : Nat} (hs : s < 256) (hp : p < 8) : hc_or (s : Int) (hc_shl 1 (p : Int)) = ((sbt s p : Nat) : Int) := b_sbt' ⟨s, hs⟩ ⟨p, hp⟩
theorem clr_lt {s p : Nat} (hs : s < 256) (hp : p < 8) : clr s p ≤ s ∧ (Nat.testBit s p = true → clr s p < s) ∧ sbt s p < 256 := clr_lt' ⟨s, hs⟩ ⟨p, hp⟩
theorem b_and' : ∀ s : Fin 256, ∀ t : Fin 16, hc_and (s.1 : Int) (t.1 : Int) = ((s.1 &&& t.1 : Nat) : Int) := by decide +kernel
