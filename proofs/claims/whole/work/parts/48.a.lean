/-! sets of folk as bits, two sets -/
def dif (s t : Nat) : Nat := s ^^^ (s &&& t)
theorem b_dif' : ∀ s : Fin 256, ∀ t : Fin 256, hc_and (s.1 : Int) (hc_xor (t.1 : Int) (-1)) = ((dif s.1 t.1 : Nat) : Int) := by decide +kernel
theorem b_dif {s t : Nat} (hs : s < 256) (ht : t < 256) : hc_and (s : Int) (hc_xor (t : Int) (-1)) = ((dif s t : Nat) : Int) := b_dif' ⟨s, hs⟩ ⟨t, ht⟩
theorem b_low' : ∀ s : Fin 256, 1 ≤ s.1 → hc_and (s.1 : Int) (-(s.1 : Int)) = ((2 ^ tz s.1 : Nat) : Int) := by decide +kernel
theorem b_at' : ∀ s : Fin 256, ∀ p : Fin 8, hc_and (s.1 : Int) ((2 ^ p.1 : Nat) : Int) = if Nat.testBit s.1 p.1 = true then ((2 ^ p.1 : Nat) : Int) else 0 := by decide +kernel
theorem b_at {s p : Nat} (hs : s < 256) (hp : p < 8) : hc_and (s : Int) ((2 ^ p : Nat) : Int) = if Nat.testBit s p = true then ((2 ^ p : Nat) : Int) else 0 := b_at' ⟨s, hs⟩ ⟨p, hp⟩

