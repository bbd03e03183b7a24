theorem dif_bit (s t i : Nat) : Nat.testBit (dif s t) i = (Nat.testBit s i && !Nat.testBit t i) := by
  unfold dif
  rw [Nat.testBit_xor, Nat.testBit_and]
  cases Nat.testBit s i <;> cases Nat.testBit t i <;> rfl
theorem dif_lt {s t : Nat} (hs : s < 256) : dif s t < 256 := Nat.xor_lt_two_pow (n := 8) hs (Nat.lt_of_le_of_lt Nat.and_le_left hs)
theorem bit_hi {s i : Nat} (hs : s < 256) (hi : 8 ≤ i) : Nat.testBit s i = false := Nat.testBit_lt_two_pow (Nat.lt_of_lt_of_le hs (Nat.pow_le_pow_right (n := 2) (by omega) hi))
theorem dif_0 {s t : Nat} : dif s t = 0 ↔ ∀ i, Nat.testBit s i = true → Nat.testBit t i = true := by
  constructor
  · intro h i hi
    have : Nat.testBit (dif s t) i = false := by rw [h, Nat.zero_testBit]
    rw [dif_bit, hi] at this
    cases q : Nat.testBit t i with
    | true => rfl
    | false => rw [q] at this; exact absurd this (by decide)
  · intro h
    apply Nat.eq_of_testBit_eq
    intro i
    rw [dif_bit, Nat.zero_testBit]
    cases q : Nat.testBit s i with
    | false => rfl
    | true => rw [h i q]; rfl

theorem dif_le {s t : Nat} : dif s t ≤ s := by
  have h : dif s t &&& s = dif s t := by
    apply Nat.eq_of_testBit_eq
    intro i
    rw [Nat.testBit_and, dif_bit]
    cases Nat.testBit s i <;> cases Nat.testBit t i <;> rfl
  have h2 : dif s t &&& s ≤ s := Nat.and_le_right
  rw [h] at h2
  exact h2
