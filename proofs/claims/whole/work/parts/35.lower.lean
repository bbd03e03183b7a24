/-! the class: the lower number -/
def lwn (n : Nat) : Nat := 720720 / Nat.gcd 720720 n
theorem eu_half {A B : Nat} (hB : 0 < B) (hAB : B ≤ A) : 2 * (A % B) ≤ A := by
  have h1 := Nat.div_add_mod A B
  have h2 := Nat.mod_lt A hB
  have h3 : 1 ≤ A / B := (Nat.le_div_iff_mul_le hB).2 (by omega)
  have h4 : B * 1 ≤ B * (A / B) := Nat.mul_le_mul_left B h3
  omega
theorem eu_step {A B m : Nat} (hB : 0 < B) (hAB : B ≤ A) (h : A * B < 2 ^ (m + 1)) : B * (A % B) < 2 ^ m := by
  have h1 : B * (2 * (A % B)) ≤ B * A := Nat.mul_le_mul_left B (eu_half hB hAB)
  have h2 : B * (2 * (A % B)) = 2 * (B * (A % B)) := Nat.mul_left_comm B 2 (A % B)
  have h3 : B * A = A * B := Nat.mul_comm B A
  have h4 : 2 ^ (m + 1) = 2 * 2 ^ m := Nat.pow_succ'
  omega
theorem eu_gcd {A B : Nat} : Nat.gcd A B = Nat.gcd B (A % B) := by
  rw [Nat.gcd_comm A B, Nat.gcd_rec B A, Nat.gcd_comm]
set_option maxRecDepth 100000 in
theorem l_lo {d : Nat} {h : hc_H} {Q : List hc_V → hc_H → Prop} {x : Int}  : ∀ (m A B : Nat) (a b i : Int) (l4 : hc_V), a = (A : Int) → b = (B : Int) → B ≤ A → 1 ≤ A → A ≤ 720720 → A * B < 2 ^ m → (0 ≤ i ∧ i + (m : Int) ≤ 63) → Q [xI ((720720 / Nat.gcd A B : Nat) : Int)] h → hc_wp (d + 1) mX9_lowerNumber 7 [xI x, xI a, xI b, xI i, l4] [] h Q := by
  intro m
  induction m with
  | zero =>
    intro A B a b i l4 ha hb hBA hA hA2 hp hi k
    have hBz : B = 0 := by
      rcases Nat.eq_zero_or_pos B with h | h
      · exact h
      · have := Nat.mul_le_mul hA h
        have h1 : (2 : Nat) ^ 0 = 1 := rfl
        omega
    refine wp_go rfl rfl ?_
    refine wp_go rfl rfl ?_
    refine e_cge rfl (fun c10 => absurd c10 (by omega)) (fun c10 => ?_)
    refine wp_go rfl rfl ?_
    refine e_ifle rfl (fun c14 => ?_) (fun c14 => absurd c14 (by omega))
    have hB0 : B = 0 := by omega
    refine wp_go rfl rfl ?_
    refine wp_go rfl rfl ?_
    refine e_cge rfl (fun c35 => ?_) (fun c35 => absurd c35 (by omega))
    refine wp_go rfl rfl ?_
    refine e_ldc 720720 rfl rfl ?_
    refine wp_go rfl rfl ?_
    refine e_idiv rfl (by omega) (by rw [show Int.tdiv 720720 a = ((720720 / A : Nat) : Int) by rw [ha]; rfl]; have := Nat.div_le_self 720720 A; generalize 720720 / A = z at *; omega) ?_
    refine wp_go rfl rfl ?_
    refine wp_ret rfl rfl ?_
    rw [hB0, Nat.gcd_zero_right] at k
    have e8 : Int.tdiv 720720 a = ((720720 / A : Nat) : Int) := by
      rw [ha]
      rfl
    have e7 : 1 ≤ 720720 / A := (Nat.le_div_iff_mul_le (by omega)).2 (by omega)
    show Q [xI (if 1 < Int.tdiv 720720 a then Int.tdiv 720720 a else 1)] h
    rw [e8, show (if (1 : Int) < ((720720 / A : Nat) : Int) then ((720720 / A : Nat) : Int) else 1) = ((720720 / A : Nat) : Int) by generalize 720720 / A = z at *; split <;> omega]
    exact k
  | succ m ih =>
    intro A B a b i l4 ha hb hBA hA hA2 hp hi k
    refine wp_go rfl rfl ?_
    refine wp_go rfl rfl ?_
    refine e_cge rfl (fun c10 => absurd c10 (by omega)) (fun c10 => ?_)
    refine wp_go rfl rfl ?_
    refine e_ifle rfl (fun c14 => ?_) (fun c14 => ?_)
    · skip
      have hB0 : B = 0 := by omega
      refine wp_go rfl rfl ?_
      refine wp_go rfl rfl ?_
      refine e_cge rfl (fun c35 => ?_) (fun c35 => absurd c35 (by omega))
      refine wp_go rfl rfl ?_
      refine e_ldc 720720 rfl rfl ?_
      refine wp_go rfl rfl ?_
      refine e_idiv rfl (by omega) (by rw [show Int.tdiv 720720 a = ((720720 / A : Nat) : Int) by rw [ha]; rfl]; have := Nat.div_le_self 720720 A; generalize 720720 / A = z at *; omega) ?_
      refine wp_go rfl rfl ?_
      refine wp_ret rfl rfl ?_
      rw [hB0, Nat.gcd_zero_right] at k
      have e8 : Int.tdiv 720720 a = ((720720 / A : Nat) : Int) := by
        rw [ha]
        rfl
      have e7 : 1 ≤ 720720 / A := (Nat.le_div_iff_mul_le (by omega)).2 (by omega)
      show Q [xI (if 1 < Int.tdiv 720720 a then Int.tdiv 720720 a else 1)] h
      rw [e8, show (if (1 : Int) < ((720720 / A : Nat) : Int) then ((720720 / A : Nat) : Int) else 1) = ((720720 / A : Nat) : Int) by generalize 720720 / A = z at *; split <;> omega]
      exact k
    · skip
      refine wp_go rfl rfl ?_
      refine wp_go rfl rfl ?_
      refine e_irem rfl (by omega) ?_
      refine e_ist (L' := [xI x, xI a, xI b, xI i, xI (Int.tmod a b)]) rfl rfl rfl ?_
      refine wp_go rfl rfl ?_
      refine e_istn (L' := [xI x, xI b, xI b, xI i, xI (Int.tmod a b)]) rfl rfl rfl ?_
      refine wp_go rfl rfl ?_
      refine e_istn (L' := [xI x, xI b, xI (Int.tmod a b), xI i, xI (Int.tmod a b)]) rfl rfl rfl ?_
      refine e_inc (L' := [xI x, xI b, xI (Int.tmod a b), xI (i + 1), xI (Int.tmod a b)]) rfl rfl (by omega) rfl ?_
      refine wp_go rfl rfl ?_
      have hB : 0 < B := by omega
      have e9 : Int.tmod a b = ((A % B : Nat) : Int) := by
        rw [ha, hb]
        rfl
      rw [e9]
      have hlt := Nat.mod_lt A hB
      refine ih B (A % B) _ _ _ _ hb rfl (by omega) (by omega) (by omega) (eu_step hB (by omega) hp) (by omega) ?_
      rw [← eu_gcd]
      exact k
set_option maxRecDepth 100000 in
theorem c_lowerNumber {d : Nat} {h : hc_H} {Q : List hc_V → hc_H → Prop} {n : Nat} (hn : n ≤ 720720) (k : Q [xI ((lwn n : Nat) : Int)] h) : hc_wp (d + 1) mX9_lowerNumber 0 [xI ((n : Nat) : Int), none, none, none, none] [] h Q := by
  refine e_ldc 720720 rfl rfl ?_
  refine e_istn (L' := [xI ((n : Nat) : Int), xI 720720, none, none, none]) rfl rfl rfl ?_
  refine wp_go rfl rfl ?_
  refine e_istn (L' := [xI ((n : Nat) : Int), xI 720720, xI ((n : Nat) : Int), none, none]) rfl rfl rfl ?_
  refine wp_go rfl rfl ?_
  refine e_istn (L' := [xI ((n : Nat) : Int), xI 720720, xI ((n : Nat) : Int), xI 0, none]) rfl rfl rfl ?_
  have h5 : 720720 * n ≤ 720720 * 720720 := Nat.mul_le_mul_left _ hn
  exact l_lo 39 720720 n _ _ 0 _ rfl rfl hn (by omega) (by omega) (by have : (2 : Nat) ^ 39 = 549755813888 := (by decide); omega) (by omega) k
