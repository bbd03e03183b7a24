/-! the reference: its cells, its tokens -/
abbrev mo (s : Nat → Int) : hc_E := .inr (10, [xR 72, xR 73, xR 74, xR 75, xI (s 4), xI (s 5), xI (s 6), xI (s 7), xI (s 8), xI (s 9), xI (s 10), xL (s 11), xI (s 12), xI (s 13), xI (s 14), xI (s 15), xR 76, xI (s 17), xI (s 18), xI (s 19), xI (s 20), xI (s 21), xI (s 22), xR 77, xR 78, xR 79, xR 80, xR 81, xR 82, xR 83, xI (s 30), xR 84, xR 85, xR 86, xR 87, xR 88, xR 89, xR 90])
def ME (l : List Nat) (s s2 : Nat → Int) : Prop := ∀ k, nin l k = true → s2 k = s k
theorem ME.rf {l : List Nat} {s : Nat → Int} : ME l s s := fun _ _ => rfl
theorem ME.u {l : List Nat} {s s2 : Nat → Int} {a : Nat} {v : Int} (H : ME l s s2) (ha : nin l a = false) : ME l s (hc_u s2 a v) := by
  intro k hk
  have : k ≠ a := by intro z; rw [z, ha] at hk; exact absurd hk (by decide)
  exact (hu_n this).trans (H k hk)
theorem ME.tr {l1 l2 : List Nat} {s s1 s2 : Nat → Int} (H1 : ME l1 s s1) (H2 : ME l2 s1 s2) (h : ∀ a, nin l2 a = true → nin l1 a = true) : ME l2 s s2 := fun k hk => (H2 k hk).trans (H1 k (h k hk))
theorem ME.mono {l1 l2 : List Nat} {s s2 : Nat → Int} (H : ME l1 s s2) (h : ∀ a, nin l2 a = true → nin l1 a = true) : ME l2 s s2 := fun k hk => H k (h k hk)

