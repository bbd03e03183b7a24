/-! the reference: words packed into a long (zl_or, zl_shl after kit/laws) -/
theorem zl_or (a b : Nat) : lN a ||| lN b = lN (a ||| b) := by
  apply Int64.toBitVec_inj.1
  show BitVec.ofNat 64 a ||| BitVec.ofNat 64 b = BitVec.ofNat 64 (a ||| b)
  apply BitVec.eq_of_getLsbD_eq
  intro i hi
  simp [hi]
theorem zl_of (a : Nat) : Int64.ofInt (a : Int) = lN a := by
  apply Int64.toBitVec_inj.1
  show BitVec.ofInt 64 (a : Int) = BitVec.ofNat 64 a
  exact BitVec.ofInt_natCast 64 a
theorem zl_s8 : ((Int32.ofInt 8).toInt64 &&& 63) = lN 8 := by decide
theorem zl_sm : ((lN 8).toBitVec.smod 64) = BitVec.ofNat 64 8 := by decide
theorem zl_shl (n : Nat) : lN n <<< ((Int32.ofInt 8).toInt64 &&& 63) = lN (n * 256) := by
  rw [zl_s8]
  apply Int64.toBitVec_inj.1
  rw [Int64.toBitVec_shiftLeft, zl_sm]
  apply BitVec.eq_of_toNat_eq
  show (BitVec.ofNat 64 n <<< BitVec.ofNat 64 8).toNat = (BitVec.ofNat 64 (n * 256)).toNat
  rw [BitVec.shiftLeft_eq', BitVec.toNat_shiftLeft, BitVec.toNat_ofNat, BitVec.toNat_ofNat, BitVec.toNat_ofNat, Nat.mod_eq_of_lt (show 8 < 2 ^ 64 by decide), Nat.shiftLeft_eq, Nat.mul_mod, Nat.mod_mod, ← Nat.mul_mod]
theorem zl_pack {x b : Int} (hx : 0 ≤ x ∧ x < 281474976710656) (hb : 0 ≤ b ∧ b < 256) : hc_lor (hc_lshl x 8) b = x * 256 + b := by
  obtain ⟨X, rfl⟩ : ∃ X : Nat, x = (X : Int) := ⟨x.toNat, by omega⟩
  obtain ⟨Y, rfl⟩ : ∃ Y : Nat, b = (Y : Int) := ⟨b.toNat, by omega⟩
  have e1 : hc_lshl (X : Int) 8 = ((X * 256 : Nat) : Int) := by
    unfold hc_lshl
    rw [zl_of, zl_shl]
    exact pk_lT (by omega)
  have e2 : X * 256 ||| Y = X * 256 + Y := by
    rw [show X * 256 = 2 ^ 8 * X by omega, Nat.two_pow_add_eq_or_of_lt (show Y < 2 ^ 8 by omega)]
  rw [e1]
  unfold hc_lor
  rw [zl_of, zl_of, zl_or, e2, pk_lT (by omega)]
  omega
def pw (B : Nat → Int) (n p : Nat) : Nat → Int
  | 0 => 0
  | k + 1 => pw B n p k * 256 + bt B n (p + k)
def wkp (x : Int) : Int := if x = 1953459308 then 10 else if x = 1920295539 then 11 else if x = 7364985 then 12 else if x = 444300619380 then 13 else if x = 1885434739 then 14 else if x = 28518 then 15 else if x = 1718775661 then 16 else if x = 29807 then 17 else if x = 26982 then 18 else if x = 6647396 then 19 else if x = 28530 then 20 else if x = 6385252 then 21 else if x = 7237492 then 22 else if x = 7825519 then 23 else if x = 469786323827 then 24 else if x = 6578553 then 25 else if x = 1885432164 then 26 else if x = 1919251316 then 27 else if x = 32488805071480179 then 28 else if x = 7824756 then 29 else 1
def cw (w : Nat) : Int := match w with
  | 10 => 1953459308
  | 11 => 1920295539
  | 12 => 7364985
  | 13 => 444300619380
  | 14 => 1885434739
  | 15 => 28518
  | 16 => 1718775661
  | 17 => 29807
  | 18 => 26982
  | 19 => 6647396
  | 20 => 28530
  | 21 => 6385252
  | 22 => 7237492
  | 23 => 7825519
  | 24 => 469786323827
  | 25 => 6578553
  | 26 => 1885432164
  | 27 => 1919251316
  | 28 => 32488805071480179
  | 29 => 7824756
  | _ => 0
theorem pw_bd {B : Nat → Int} {n p : Nat} : ∀ L, L ≤ 7 → (∀ k, k < L → 65 ≤ bt B n (p + k) ∧ bt B n (p + k) ≤ 122) → 0 ≤ pw B n p L ∧ pw B n p L < 256 ^ L
  | 0, _, _ => by show 0 ≤ (0 : Int) ∧ (0 : Int) < 256 ^ 0; decide
  | L + 1, h, hb => by
    have ih := pw_bd (B := B) (n := n) (p := p) L (by omega) (fun k hk => hb k (by omega))
    have h1 := hb L (by omega)
    rw [pw, Int.pow_succ]
    omega
theorem wd_10 {B : Nat → Int} {n p L : Nat} (h1 : 1 ≤ L) (h7 : L ≤ 7) (hb : ∀ k, k < L → 65 ≤ bt B n (p + k) ∧ bt B n (p + k) ≤ 122) : wdF B n p (p + L) 10 = decide (pw B n p L = 1953459308) := by
  have hs : sbl 10 = 4 := rfl
  have hc : L = 1 ∨ L = 2 ∨ L = 3 ∨ L = 4 ∨ L = 5 ∨ L = 6 ∨ L = 7 := by omega
  unfold wdF mtc
  rw [hs]
  rcases hc with rfl | rfl | rfl | rfl | rfl | rfl | rfl
  · rw [decide_eq_false (show ¬ 4 = p + 1 - p by omega), Bool.false_and]
    have g0 := hb 0 (by omega)
    symm
    apply decide_eq_false
    simp only [pw]
    omega
  · rw [decide_eq_false (show ¬ 4 = p + 2 - p by omega), Bool.false_and]
    have g0 := hb 0 (by omega)
    have g1 := hb 1 (by omega)
    symm
    apply decide_eq_false
    simp only [pw]
    omega
  · rw [decide_eq_false (show ¬ 4 = p + 3 - p by omega), Bool.false_and]
    have g0 := hb 0 (by omega)
    have g1 := hb 1 (by omega)
    have g2 := hb 2 (by omega)
    symm
    apply decide_eq_false
    simp only [pw]
    omega
  · have g0 := hb 0 (by omega)
    have g1 := hb 1 (by omega)
    have g2 := hb 2 (by omega)
    have g3 := hb 3 (by omega)
    rw [decide_eq_true (show 4 = p + 4 - p by omega), Bool.true_and]
    have s0 : sbf 10 0 = 116 := rfl
    have s1 : sbf 10 1 = 111 := rfl
    have s2 : sbf 10 2 = 108 := rfl
    have s3 : sbf 10 3 = 108 := rfl
    rw [Bool.eq_iff_iff, decide_eq_true_iff]
    simp only [alm, pw, Bool.true_and, Bool.and_eq_true, decide_eq_true_eq, s0, s1, s2, s3]
    constructor
    · intro z
      omega
    · intro z
      refine ⟨⟨⟨?_, ?_⟩, ?_⟩, ?_⟩ <;> omega
  · rw [decide_eq_false (show ¬ 4 = p + 5 - p by omega), Bool.false_and]
    have g0 := hb 0 (by omega)
    have g1 := hb 1 (by omega)
    have g2 := hb 2 (by omega)
    have g3 := hb 3 (by omega)
    have g4 := hb 4 (by omega)
    symm
    apply decide_eq_false
    simp only [pw]
    omega
  · rw [decide_eq_false (show ¬ 4 = p + 6 - p by omega), Bool.false_and]
    have g0 := hb 0 (by omega)
    have g1 := hb 1 (by omega)
    have g2 := hb 2 (by omega)
    have g3 := hb 3 (by omega)
    have g4 := hb 4 (by omega)
    have g5 := hb 5 (by omega)
    symm
    apply decide_eq_false
    simp only [pw]
    omega
  · rw [decide_eq_false (show ¬ 4 = p + 7 - p by omega), Bool.false_and]
    have g0 := hb 0 (by omega)
    have g1 := hb 1 (by omega)
    have g2 := hb 2 (by omega)
    have g3 := hb 3 (by omega)
    have g4 := hb 4 (by omega)
    have g5 := hb 5 (by omega)
    have g6 := hb 6 (by omega)
    symm
    apply decide_eq_false
    simp only [pw]
    omega
theorem wd_11 {B : Nat → Int} {n p L : Nat} (h1 : 1 ≤ L) (h7 : L ≤ 7) (hb : ∀ k, k < L → 65 ≤ bt B n (p + k) ∧ bt B n (p + k) ≤ 122) : wdF B n p (p + L) 11 = decide (pw B n p L = 1920295539) := by
  have hs : sbl 11 = 4 := rfl
  have hc : L = 1 ∨ L = 2 ∨ L = 3 ∨ L = 4 ∨ L = 5 ∨ L = 6 ∨ L = 7 := by omega
  unfold wdF mtc
  rw [hs]
  rcases hc with rfl | rfl | rfl | rfl | rfl | rfl | rfl
  · rw [decide_eq_false (show ¬ 4 = p + 1 - p by omega), Bool.false_and]
    have g0 := hb 0 (by omega)
    symm
    apply decide_eq_false
    simp only [pw]
    omega
  · rw [decide_eq_false (show ¬ 4 = p + 2 - p by omega), Bool.false_and]
    have g0 := hb 0 (by omega)
    have g1 := hb 1 (by omega)
    symm
    apply decide_eq_false
    simp only [pw]
    omega
  · rw [decide_eq_false (show ¬ 4 = p + 3 - p by omega), Bool.false_and]
    have g0 := hb 0 (by omega)
    have g1 := hb 1 (by omega)
    have g2 := hb 2 (by omega)
    symm
    apply decide_eq_false
    simp only [pw]
    omega
  · have g0 := hb 0 (by omega)
    have g1 := hb 1 (by omega)
    have g2 := hb 2 (by omega)
    have g3 := hb 3 (by omega)
    rw [decide_eq_true (show 4 = p + 4 - p by omega), Bool.true_and]
    have s0 : sbf 11 0 = 114 := rfl
    have s1 : sbf 11 1 = 117 := rfl
    have s2 : sbf 11 2 = 98 := rfl
    have s3 : sbf 11 3 = 115 := rfl
    rw [Bool.eq_iff_iff, decide_eq_true_iff]
    simp only [alm, pw, Bool.true_and, Bool.and_eq_true, decide_eq_true_eq, s0, s1, s2, s3]
    constructor
    · intro z
      omega
    · intro z
      refine ⟨⟨⟨?_, ?_⟩, ?_⟩, ?_⟩ <;> omega
  · rw [decide_eq_false (show ¬ 4 = p + 5 - p by omega), Bool.false_and]
    have g0 := hb 0 (by omega)
    have g1 := hb 1 (by omega)
    have g2 := hb 2 (by omega)
    have g3 := hb 3 (by omega)
    have g4 := hb 4 (by omega)
    symm
    apply decide_eq_false
    simp only [pw]
    omega
  · rw [decide_eq_false (show ¬ 4 = p + 6 - p by omega), Bool.false_and]
    have g0 := hb 0 (by omega)
    have g1 := hb 1 (by omega)
    have g2 := hb 2 (by omega)
    have g3 := hb 3 (by omega)
    have g4 := hb 4 (by omega)
    have g5 := hb 5 (by omega)
    symm
    apply decide_eq_false
    simp only [pw]
    omega
  · rw [decide_eq_false (show ¬ 4 = p + 7 - p by omega), Bool.false_and]
    have g0 := hb 0 (by omega)
    have g1 := hb 1 (by omega)
    have g2 := hb 2 (by omega)
    have g3 := hb 3 (by omega)
    have g4 := hb 4 (by omega)
    have g5 := hb 5 (by omega)
    have g6 := hb 6 (by omega)
    symm
    apply decide_eq_false
    simp only [pw]
    omega
theorem wd_12 {B : Nat → Int} {n p L : Nat} (h1 : 1 ≤ L) (h7 : L ≤ 7) (hb : ∀ k, k < L → 65 ≤ bt B n (p + k) ∧ bt B n (p + k) ≤ 122) : wdF B n p (p + L) 12 = decide (pw B n p L = 7364985) := by
  have hs : sbl 12 = 3 := rfl
  have hc : L = 1 ∨ L = 2 ∨ L = 3 ∨ L = 4 ∨ L = 5 ∨ L = 6 ∨ L = 7 := by omega
  unfold wdF mtc
  rw [hs]
  rcases hc with rfl | rfl | rfl | rfl | rfl | rfl | rfl
  · rw [decide_eq_false (show ¬ 3 = p + 1 - p by omega), Bool.false_and]
    have g0 := hb 0 (by omega)
    symm
    apply decide_eq_false
    simp only [pw]
    omega
  · rw [decide_eq_false (show ¬ 3 = p + 2 - p by omega), Bool.false_and]
    have g0 := hb 0 (by omega)
    have g1 := hb 1 (by omega)
    symm
    apply decide_eq_false
    simp only [pw]
    omega
  · have g0 := hb 0 (by omega)
    have g1 := hb 1 (by omega)
    have g2 := hb 2 (by omega)
    rw [decide_eq_true (show 3 = p + 3 - p by omega), Bool.true_and]
    have s0 : sbf 12 0 = 112 := rfl
    have s1 : sbf 12 1 = 97 := rfl
    have s2 : sbf 12 2 = 121 := rfl
    rw [Bool.eq_iff_iff, decide_eq_true_iff]
    simp only [alm, pw, Bool.true_and, Bool.and_eq_true, decide_eq_true_eq, s0, s1, s2]
    constructor
    · intro z
      omega
    · intro z
      refine ⟨⟨?_, ?_⟩, ?_⟩ <;> omega
  · rw [decide_eq_false (show ¬ 3 = p + 4 - p by omega), Bool.false_and]
    have g0 := hb 0 (by omega)
    have g1 := hb 1 (by omega)
    have g2 := hb 2 (by omega)
    have g3 := hb 3 (by omega)
    symm
    apply decide_eq_false
    simp only [pw]
    omega
  · rw [decide_eq_false (show ¬ 3 = p + 5 - p by omega), Bool.false_and]
    have g0 := hb 0 (by omega)
    have g1 := hb 1 (by omega)
    have g2 := hb 2 (by omega)
    have g3 := hb 3 (by omega)
    have g4 := hb 4 (by omega)
    symm
    apply decide_eq_false
    simp only [pw]
    omega
  · rw [decide_eq_false (show ¬ 3 = p + 6 - p by omega), Bool.false_and]
    have g0 := hb 0 (by omega)
    have g1 := hb 1 (by omega)
    have g2 := hb 2 (by omega)
    have g3 := hb 3 (by omega)
    have g4 := hb 4 (by omega)
    have g5 := hb 5 (by omega)
    symm
    apply decide_eq_false
    simp only [pw]
    omega
  · rw [decide_eq_false (show ¬ 3 = p + 7 - p by omega), Bool.false_and]
    have g0 := hb 0 (by omega)
    have g1 := hb 1 (by omega)
    have g2 := hb 2 (by omega)
    have g3 := hb 3 (by omega)
    have g4 := hb 4 (by omega)
    have g5 := hb 5 (by omega)
    have g6 := hb 6 (by omega)
    symm
    apply decide_eq_false
    simp only [pw]
    omega
theorem wd_13 {B : Nat → Int} {n p L : Nat} (h1 : 1 ≤ L) (h7 : L ≤ 7) (hb : ∀ k, k < L → 65 ≤ bt B n (p + k) ∧ bt B n (p + k) ≤ 122) : wdF B n p (p + L) 13 = decide (pw B n p L = 444300619380) := by
  have hs : sbl 13 = 5 := rfl
  have hc : L = 1 ∨ L = 2 ∨ L = 3 ∨ L = 4 ∨ L = 5 ∨ L = 6 ∨ L = 7 := by omega
  unfold wdF mtc
  rw [hs]
  rcases hc with rfl | rfl | rfl | rfl | rfl | rfl | rfl
  · rw [decide_eq_false (show ¬ 5 = p + 1 - p by omega), Bool.false_and]
    have g0 := hb 0 (by omega)
    symm
    apply decide_eq_false
    simp only [pw]
    omega
  · rw [decide_eq_false (show ¬ 5 = p + 2 - p by omega), Bool.false_and]
    have g0 := hb 0 (by omega)
    have g1 := hb 1 (by omega)
    symm
    apply decide_eq_false
    simp only [pw]
    omega
  · rw [decide_eq_false (show ¬ 5 = p + 3 - p by omega), Bool.false_and]
    have g0 := hb 0 (by omega)
    have g1 := hb 1 (by omega)
    have g2 := hb 2 (by omega)
    symm
    apply decide_eq_false
    simp only [pw]
    omega
  · rw [decide_eq_false (show ¬ 5 = p + 4 - p by omega), Bool.false_and]
    have g0 := hb 0 (by omega)
    have g1 := hb 1 (by omega)
    have g2 := hb 2 (by omega)
    have g3 := hb 3 (by omega)
    symm
    apply decide_eq_false
    simp only [pw]
    omega
  · have g0 := hb 0 (by omega)
    have g1 := hb 1 (by omega)
    have g2 := hb 2 (by omega)
    have g3 := hb 3 (by omega)
    have g4 := hb 4 (by omega)
    rw [decide_eq_true (show 5 = p + 5 - p by omega), Bool.true_and]
    have s0 : sbf 13 0 = 103 := rfl
    have s1 : sbf 13 1 = 114 := rfl
    have s2 : sbf 13 2 = 97 := rfl
    have s3 : sbf 13 3 = 110 := rfl
    have s4 : sbf 13 4 = 116 := rfl
    rw [Bool.eq_iff_iff, decide_eq_true_iff]
    simp only [alm, pw, Bool.true_and, Bool.and_eq_true, decide_eq_true_eq, s0, s1, s2, s3, s4]
    constructor
    · intro z
      omega
    · intro z
      refine ⟨⟨⟨⟨?_, ?_⟩, ?_⟩, ?_⟩, ?_⟩ <;> omega
  · rw [decide_eq_false (show ¬ 5 = p + 6 - p by omega), Bool.false_and]
    have g0 := hb 0 (by omega)
    have g1 := hb 1 (by omega)
    have g2 := hb 2 (by omega)
    have g3 := hb 3 (by omega)
    have g4 := hb 4 (by omega)
    have g5 := hb 5 (by omega)
    symm
    apply decide_eq_false
    simp only [pw]
    omega
  · rw [decide_eq_false (show ¬ 5 = p + 7 - p by omega), Bool.false_and]
    have g0 := hb 0 (by omega)
    have g1 := hb 1 (by omega)
    have g2 := hb 2 (by omega)
    have g3 := hb 3 (by omega)
    have g4 := hb 4 (by omega)
    have g5 := hb 5 (by omega)
    have g6 := hb 6 (by omega)
    symm
    apply decide_eq_false
    simp only [pw]
    omega
theorem wd_14 {B : Nat → Int} {n p L : Nat} (h1 : 1 ≤ L) (h7 : L ≤ 7) (hb : ∀ k, k < L → 65 ≤ bt B n (p + k) ∧ bt B n (p + k) ≤ 122) : wdF B n p (p + L) 14 = decide (pw B n p L = 1885434739) := by
  have hs : sbl 14 = 4 := rfl
  have hc : L = 1 ∨ L = 2 ∨ L = 3 ∨ L = 4 ∨ L = 5 ∨ L = 6 ∨ L = 7 := by omega
  unfold wdF mtc
  rw [hs]
  rcases hc with rfl | rfl | rfl | rfl | rfl | rfl | rfl
  · rw [decide_eq_false (show ¬ 4 = p + 1 - p by omega), Bool.false_and]
    have g0 := hb 0 (by omega)
    symm
    apply decide_eq_false
    simp only [pw]
    omega
  · rw [decide_eq_false (show ¬ 4 = p + 2 - p by omega), Bool.false_and]
    have g0 := hb 0 (by omega)
    have g1 := hb 1 (by omega)
    symm
    apply decide_eq_false
    simp only [pw]
    omega
  · rw [decide_eq_false (show ¬ 4 = p + 3 - p by omega), Bool.false_and]
    have g0 := hb 0 (by omega)
    have g1 := hb 1 (by omega)
    have g2 := hb 2 (by omega)
    symm
    apply decide_eq_false
    simp only [pw]
    omega
  · have g0 := hb 0 (by omega)
    have g1 := hb 1 (by omega)
    have g2 := hb 2 (by omega)
    have g3 := hb 3 (by omega)
    rw [decide_eq_true (show 4 = p + 4 - p by omega), Bool.true_and]
    have s0 : sbf 14 0 = 112 := rfl
    have s1 : sbf 14 1 = 97 := rfl
    have s2 : sbf 14 2 = 115 := rfl
    have s3 : sbf 14 3 = 115 := rfl
    rw [Bool.eq_iff_iff, decide_eq_true_iff]
    simp only [alm, pw, Bool.true_and, Bool.and_eq_true, decide_eq_true_eq, s0, s1, s2, s3]
    constructor
    · intro z
      omega
    · intro z
      refine ⟨⟨⟨?_, ?_⟩, ?_⟩, ?_⟩ <;> omega
  · rw [decide_eq_false (show ¬ 4 = p + 5 - p by omega), Bool.false_and]
    have g0 := hb 0 (by omega)
    have g1 := hb 1 (by omega)
    have g2 := hb 2 (by omega)
    have g3 := hb 3 (by omega)
    have g4 := hb 4 (by omega)
    symm
    apply decide_eq_false
    simp only [pw]
    omega
  · rw [decide_eq_false (show ¬ 4 = p + 6 - p by omega), Bool.false_and]
    have g0 := hb 0 (by omega)
    have g1 := hb 1 (by omega)
    have g2 := hb 2 (by omega)
    have g3 := hb 3 (by omega)
    have g4 := hb 4 (by omega)
    have g5 := hb 5 (by omega)
    symm
    apply decide_eq_false
    simp only [pw]
    omega
  · rw [decide_eq_false (show ¬ 4 = p + 7 - p by omega), Bool.false_and]
    have g0 := hb 0 (by omega)
    have g1 := hb 1 (by omega)
    have g2 := hb 2 (by omega)
    have g3 := hb 3 (by omega)
    have g4 := hb 4 (by omega)
    have g5 := hb 5 (by omega)
    have g6 := hb 6 (by omega)
    symm
    apply decide_eq_false
    simp only [pw]
    omega
theorem wd_15 {B : Nat → Int} {n p L : Nat} (h1 : 1 ≤ L) (h7 : L ≤ 7) (hb : ∀ k, k < L → 65 ≤ bt B n (p + k) ∧ bt B n (p + k) ≤ 122) : wdF B n p (p + L) 15 = decide (pw B n p L = 28518) := by
  have hs : sbl 15 = 2 := rfl
  have hc : L = 1 ∨ L = 2 ∨ L = 3 ∨ L = 4 ∨ L = 5 ∨ L = 6 ∨ L = 7 := by omega
  unfold wdF mtc
  rw [hs]
  rcases hc with rfl | rfl | rfl | rfl | rfl | rfl | rfl
  · rw [decide_eq_false (show ¬ 2 = p + 1 - p by omega), Bool.false_and]
    have g0 := hb 0 (by omega)
    symm
    apply decide_eq_false
    simp only [pw]
    omega
  · have g0 := hb 0 (by omega)
    have g1 := hb 1 (by omega)
    rw [decide_eq_true (show 2 = p + 2 - p by omega), Bool.true_and]
    have s0 : sbf 15 0 = 111 := rfl
    have s1 : sbf 15 1 = 102 := rfl
    rw [Bool.eq_iff_iff, decide_eq_true_iff]
    simp only [alm, pw, Bool.true_and, Bool.and_eq_true, decide_eq_true_eq, s0, s1]
    constructor
    · intro z
      omega
    · intro z
      refine ⟨?_, ?_⟩ <;> omega
  · rw [decide_eq_false (show ¬ 2 = p + 3 - p by omega), Bool.false_and]
    have g0 := hb 0 (by omega)
    have g1 := hb 1 (by omega)
    have g2 := hb 2 (by omega)
    symm
    apply decide_eq_false
    simp only [pw]
    omega
  · rw [decide_eq_false (show ¬ 2 = p + 4 - p by omega), Bool.false_and]
    have g0 := hb 0 (by omega)
    have g1 := hb 1 (by omega)
    have g2 := hb 2 (by omega)
    have g3 := hb 3 (by omega)
    symm
    apply decide_eq_false
    simp only [pw]
    omega
  · rw [decide_eq_false (show ¬ 2 = p + 5 - p by omega), Bool.false_and]
    have g0 := hb 0 (by omega)
    have g1 := hb 1 (by omega)
    have g2 := hb 2 (by omega)
    have g3 := hb 3 (by omega)
    have g4 := hb 4 (by omega)
    symm
    apply decide_eq_false
    simp only [pw]
    omega
  · rw [decide_eq_false (show ¬ 2 = p + 6 - p by omega), Bool.false_and]
    have g0 := hb 0 (by omega)
    have g1 := hb 1 (by omega)
    have g2 := hb 2 (by omega)
    have g3 := hb 3 (by omega)
    have g4 := hb 4 (by omega)
    have g5 := hb 5 (by omega)
    symm
    apply decide_eq_false
    simp only [pw]
    omega
  · rw [decide_eq_false (show ¬ 2 = p + 7 - p by omega), Bool.false_and]
    have g0 := hb 0 (by omega)
    have g1 := hb 1 (by omega)
    have g2 := hb 2 (by omega)
    have g3 := hb 3 (by omega)
    have g4 := hb 4 (by omega)
    have g5 := hb 5 (by omega)
    have g6 := hb 6 (by omega)
    symm
    apply decide_eq_false
    simp only [pw]
    omega
theorem wd_16 {B : Nat → Int} {n p L : Nat} (h1 : 1 ≤ L) (h7 : L ≤ 7) (hb : ∀ k, k < L → 65 ≤ bt B n (p + k) ∧ bt B n (p + k) ≤ 122) : wdF B n p (p + L) 16 = decide (pw B n p L = 1718775661) := by
  have hs : sbl 16 = 4 := rfl
  have hc : L = 1 ∨ L = 2 ∨ L = 3 ∨ L = 4 ∨ L = 5 ∨ L = 6 ∨ L = 7 := by omega
  unfold wdF mtc
  rw [hs]
  rcases hc with rfl | rfl | rfl | rfl | rfl | rfl | rfl
  · rw [decide_eq_false (show ¬ 4 = p + 1 - p by omega), Bool.false_and]
    have g0 := hb 0 (by omega)
    symm
    apply decide_eq_false
    simp only [pw]
    omega
  · rw [decide_eq_false (show ¬ 4 = p + 2 - p by omega), Bool.false_and]
    have g0 := hb 0 (by omega)
    have g1 := hb 1 (by omega)
    symm
    apply decide_eq_false
    simp only [pw]
    omega
  · rw [decide_eq_false (show ¬ 4 = p + 3 - p by omega), Bool.false_and]
    have g0 := hb 0 (by omega)
    have g1 := hb 1 (by omega)
    have g2 := hb 2 (by omega)
    symm
    apply decide_eq_false
    simp only [pw]
    omega
  · have g0 := hb 0 (by omega)
    have g1 := hb 1 (by omega)
    have g2 := hb 2 (by omega)
    have g3 := hb 3 (by omega)
    rw [decide_eq_true (show 4 = p + 4 - p by omega), Bool.true_and]
    have s0 : sbf 16 0 = 102 := rfl
    have s1 : sbf 16 1 = 114 := rfl
    have s2 : sbf 16 2 = 111 := rfl
    have s3 : sbf 16 3 = 109 := rfl
    rw [Bool.eq_iff_iff, decide_eq_true_iff]
    simp only [alm, pw, Bool.true_and, Bool.and_eq_true, decide_eq_true_eq, s0, s1, s2, s3]
    constructor
    · intro z
      omega
    · intro z
      refine ⟨⟨⟨?_, ?_⟩, ?_⟩, ?_⟩ <;> omega
  · rw [decide_eq_false (show ¬ 4 = p + 5 - p by omega), Bool.false_and]
    have g0 := hb 0 (by omega)
    have g1 := hb 1 (by omega)
    have g2 := hb 2 (by omega)
    have g3 := hb 3 (by omega)
    have g4 := hb 4 (by omega)
    symm
    apply decide_eq_false
    simp only [pw]
    omega
  · rw [decide_eq_false (show ¬ 4 = p + 6 - p by omega), Bool.false_and]
    have g0 := hb 0 (by omega)
    have g1 := hb 1 (by omega)
    have g2 := hb 2 (by omega)
    have g3 := hb 3 (by omega)
    have g4 := hb 4 (by omega)
    have g5 := hb 5 (by omega)
    symm
    apply decide_eq_false
    simp only [pw]
    omega
  · rw [decide_eq_false (show ¬ 4 = p + 7 - p by omega), Bool.false_and]
    have g0 := hb 0 (by omega)
    have g1 := hb 1 (by omega)
    have g2 := hb 2 (by omega)
    have g3 := hb 3 (by omega)
    have g4 := hb 4 (by omega)
    have g5 := hb 5 (by omega)
    have g6 := hb 6 (by omega)
    symm
    apply decide_eq_false
    simp only [pw]
    omega
theorem wd_17 {B : Nat → Int} {n p L : Nat} (h1 : 1 ≤ L) (h7 : L ≤ 7) (hb : ∀ k, k < L → 65 ≤ bt B n (p + k) ∧ bt B n (p + k) ≤ 122) : wdF B n p (p + L) 17 = decide (pw B n p L = 29807) := by
  have hs : sbl 17 = 2 := rfl
  have hc : L = 1 ∨ L = 2 ∨ L = 3 ∨ L = 4 ∨ L = 5 ∨ L = 6 ∨ L = 7 := by omega
  unfold wdF mtc
  rw [hs]
  rcases hc with rfl | rfl | rfl | rfl | rfl | rfl | rfl
  · rw [decide_eq_false (show ¬ 2 = p + 1 - p by omega), Bool.false_and]
    have g0 := hb 0 (by omega)
    symm
    apply decide_eq_false
    simp only [pw]
    omega
  · have g0 := hb 0 (by omega)
    have g1 := hb 1 (by omega)
    rw [decide_eq_true (show 2 = p + 2 - p by omega), Bool.true_and]
    have s0 : sbf 17 0 = 116 := rfl
    have s1 : sbf 17 1 = 111 := rfl
    rw [Bool.eq_iff_iff, decide_eq_true_iff]
    simp only [alm, pw, Bool.true_and, Bool.and_eq_true, decide_eq_true_eq, s0, s1]
    constructor
    · intro z
      omega
    · intro z
      refine ⟨?_, ?_⟩ <;> omega
  · rw [decide_eq_false (show ¬ 2 = p + 3 - p by omega), Bool.false_and]
    have g0 := hb 0 (by omega)
    have g1 := hb 1 (by omega)
    have g2 := hb 2 (by omega)
    symm
    apply decide_eq_false
    simp only [pw]
    omega
  · rw [decide_eq_false (show ¬ 2 = p + 4 - p by omega), Bool.false_and]
    have g0 := hb 0 (by omega)
    have g1 := hb 1 (by omega)
    have g2 := hb 2 (by omega)
    have g3 := hb 3 (by omega)
    symm
    apply decide_eq_false
    simp only [pw]
    omega
  · rw [decide_eq_false (show ¬ 2 = p + 5 - p by omega), Bool.false_and]
    have g0 := hb 0 (by omega)
    have g1 := hb 1 (by omega)
    have g2 := hb 2 (by omega)
    have g3 := hb 3 (by omega)
    have g4 := hb 4 (by omega)
    symm
    apply decide_eq_false
    simp only [pw]
    omega
  · rw [decide_eq_false (show ¬ 2 = p + 6 - p by omega), Bool.false_and]
    have g0 := hb 0 (by omega)
    have g1 := hb 1 (by omega)
    have g2 := hb 2 (by omega)
    have g3 := hb 3 (by omega)
    have g4 := hb 4 (by omega)
    have g5 := hb 5 (by omega)
    symm
    apply decide_eq_false
    simp only [pw]
    omega
  · rw [decide_eq_false (show ¬ 2 = p + 7 - p by omega), Bool.false_and]
    have g0 := hb 0 (by omega)
    have g1 := hb 1 (by omega)
    have g2 := hb 2 (by omega)
    have g3 := hb 3 (by omega)
    have g4 := hb 4 (by omega)
    have g5 := hb 5 (by omega)
    have g6 := hb 6 (by omega)
    symm
    apply decide_eq_false
    simp only [pw]
    omega
theorem wd_18 {B : Nat → Int} {n p L : Nat} (h1 : 1 ≤ L) (h7 : L ≤ 7) (hb : ∀ k, k < L → 65 ≤ bt B n (p + k) ∧ bt B n (p + k) ≤ 122) : wdF B n p (p + L) 18 = decide (pw B n p L = 26982) := by
  have hs : sbl 18 = 2 := rfl
  have hc : L = 1 ∨ L = 2 ∨ L = 3 ∨ L = 4 ∨ L = 5 ∨ L = 6 ∨ L = 7 := by omega
  unfold wdF mtc
  rw [hs]
  rcases hc with rfl | rfl | rfl | rfl | rfl | rfl | rfl
  · rw [decide_eq_false (show ¬ 2 = p + 1 - p by omega), Bool.false_and]
    have g0 := hb 0 (by omega)
    symm
    apply decide_eq_false
    simp only [pw]
    omega
  · have g0 := hb 0 (by omega)
    have g1 := hb 1 (by omega)
    rw [decide_eq_true (show 2 = p + 2 - p by omega), Bool.true_and]
    have s0 : sbf 18 0 = 105 := rfl
    have s1 : sbf 18 1 = 102 := rfl
    rw [Bool.eq_iff_iff, decide_eq_true_iff]
    simp only [alm, pw, Bool.true_and, Bool.and_eq_true, decide_eq_true_eq, s0, s1]
    constructor
    · intro z
      omega
    · intro z
      refine ⟨?_, ?_⟩ <;> omega
  · rw [decide_eq_false (show ¬ 2 = p + 3 - p by omega), Bool.false_and]
    have g0 := hb 0 (by omega)
    have g1 := hb 1 (by omega)
    have g2 := hb 2 (by omega)
    symm
    apply decide_eq_false
    simp only [pw]
    omega
  · rw [decide_eq_false (show ¬ 2 = p + 4 - p by omega), Bool.false_and]
    have g0 := hb 0 (by omega)
    have g1 := hb 1 (by omega)
    have g2 := hb 2 (by omega)
    have g3 := hb 3 (by omega)
    symm
    apply decide_eq_false
    simp only [pw]
    omega
  · rw [decide_eq_false (show ¬ 2 = p + 5 - p by omega), Bool.false_and]
    have g0 := hb 0 (by omega)
    have g1 := hb 1 (by omega)
    have g2 := hb 2 (by omega)
    have g3 := hb 3 (by omega)
    have g4 := hb 4 (by omega)
    symm
    apply decide_eq_false
    simp only [pw]
    omega
  · rw [decide_eq_false (show ¬ 2 = p + 6 - p by omega), Bool.false_and]
    have g0 := hb 0 (by omega)
    have g1 := hb 1 (by omega)
    have g2 := hb 2 (by omega)
    have g3 := hb 3 (by omega)
    have g4 := hb 4 (by omega)
    have g5 := hb 5 (by omega)
    symm
    apply decide_eq_false
    simp only [pw]
    omega
  · rw [decide_eq_false (show ¬ 2 = p + 7 - p by omega), Bool.false_and]
    have g0 := hb 0 (by omega)
    have g1 := hb 1 (by omega)
    have g2 := hb 2 (by omega)
    have g3 := hb 3 (by omega)
    have g4 := hb 4 (by omega)
    have g5 := hb 5 (by omega)
    have g6 := hb 6 (by omega)
    symm
    apply decide_eq_false
    simp only [pw]
    omega
theorem wd_19 {B : Nat → Int} {n p L : Nat} (h1 : 1 ≤ L) (h7 : L ≤ 7) (hb : ∀ k, k < L → 65 ≤ bt B n (p + k) ∧ bt B n (p + k) ≤ 122) : wdF B n p (p + L) 19 = decide (pw B n p L = 6647396) := by
  have hs : sbl 19 = 3 := rfl
  have hc : L = 1 ∨ L = 2 ∨ L = 3 ∨ L = 4 ∨ L = 5 ∨ L = 6 ∨ L = 7 := by omega
  unfold wdF mtc
  rw [hs]
  rcases hc with rfl | rfl | rfl | rfl | rfl | rfl | rfl
  · rw [decide_eq_false (show ¬ 3 = p + 1 - p by omega), Bool.false_and]
    have g0 := hb 0 (by omega)
    symm
    apply decide_eq_false
    simp only [pw]
    omega
  · rw [decide_eq_false (show ¬ 3 = p + 2 - p by omega), Bool.false_and]
    have g0 := hb 0 (by omega)
    have g1 := hb 1 (by omega)
    symm
    apply decide_eq_false
    simp only [pw]
    omega
  · have g0 := hb 0 (by omega)
    have g1 := hb 1 (by omega)
    have g2 := hb 2 (by omega)
    rw [decide_eq_true (show 3 = p + 3 - p by omega), Bool.true_and]
    have s0 : sbf 19 0 = 101 := rfl
    have s1 : sbf 19 1 = 110 := rfl
    have s2 : sbf 19 2 = 100 := rfl
    rw [Bool.eq_iff_iff, decide_eq_true_iff]
    simp only [alm, pw, Bool.true_and, Bool.and_eq_true, decide_eq_true_eq, s0, s1, s2]
    constructor
    · intro z
      omega
    · intro z
      refine ⟨⟨?_, ?_⟩, ?_⟩ <;> omega
  · rw [decide_eq_false (show ¬ 3 = p + 4 - p by omega), Bool.false_and]
    have g0 := hb 0 (by omega)
    have g1 := hb 1 (by omega)
    have g2 := hb 2 (by omega)
    have g3 := hb 3 (by omega)
    symm
    apply decide_eq_false
    simp only [pw]
    omega
  · rw [decide_eq_false (show ¬ 3 = p + 5 - p by omega), Bool.false_and]
    have g0 := hb 0 (by omega)
    have g1 := hb 1 (by omega)
    have g2 := hb 2 (by omega)
    have g3 := hb 3 (by omega)
    have g4 := hb 4 (by omega)
    symm
    apply decide_eq_false
    simp only [pw]
    omega
  · rw [decide_eq_false (show ¬ 3 = p + 6 - p by omega), Bool.false_and]
    have g0 := hb 0 (by omega)
    have g1 := hb 1 (by omega)
    have g2 := hb 2 (by omega)
    have g3 := hb 3 (by omega)
    have g4 := hb 4 (by omega)
    have g5 := hb 5 (by omega)
    symm
    apply decide_eq_false
    simp only [pw]
    omega
  · rw [decide_eq_false (show ¬ 3 = p + 7 - p by omega), Bool.false_and]
    have g0 := hb 0 (by omega)
    have g1 := hb 1 (by omega)
    have g2 := hb 2 (by omega)
    have g3 := hb 3 (by omega)
    have g4 := hb 4 (by omega)
    have g5 := hb 5 (by omega)
    have g6 := hb 6 (by omega)
    symm
    apply decide_eq_false
    simp only [pw]
    omega
theorem wd_20 {B : Nat → Int} {n p L : Nat} (h1 : 1 ≤ L) (h7 : L ≤ 7) (hb : ∀ k, k < L → 65 ≤ bt B n (p + k) ∧ bt B n (p + k) ≤ 122) : wdF B n p (p + L) 20 = decide (pw B n p L = 28530) := by
  have hs : sbl 20 = 2 := rfl
  have hc : L = 1 ∨ L = 2 ∨ L = 3 ∨ L = 4 ∨ L = 5 ∨ L = 6 ∨ L = 7 := by omega
  unfold wdF mtc
  rw [hs]
  rcases hc with rfl | rfl | rfl | rfl | rfl | rfl | rfl
  · rw [decide_eq_false (show ¬ 2 = p + 1 - p by omega), Bool.false_and]
    have g0 := hb 0 (by omega)
    symm
    apply decide_eq_false
    simp only [pw]
    omega
  · have g0 := hb 0 (by omega)
    have g1 := hb 1 (by omega)
    rw [decide_eq_true (show 2 = p + 2 - p by omega), Bool.true_and]
    have s0 : sbf 20 0 = 111 := rfl
    have s1 : sbf 20 1 = 114 := rfl
    rw [Bool.eq_iff_iff, decide_eq_true_iff]
    simp only [alm, pw, Bool.true_and, Bool.and_eq_true, decide_eq_true_eq, s0, s1]
    constructor
    · intro z
      omega
    · intro z
      refine ⟨?_, ?_⟩ <;> omega
  · rw [decide_eq_false (show ¬ 2 = p + 3 - p by omega), Bool.false_and]
    have g0 := hb 0 (by omega)
    have g1 := hb 1 (by omega)
    have g2 := hb 2 (by omega)
    symm
    apply decide_eq_false
    simp only [pw]
    omega
  · rw [decide_eq_false (show ¬ 2 = p + 4 - p by omega), Bool.false_and]
    have g0 := hb 0 (by omega)
    have g1 := hb 1 (by omega)
    have g2 := hb 2 (by omega)
    have g3 := hb 3 (by omega)
    symm
    apply decide_eq_false
    simp only [pw]
    omega
  · rw [decide_eq_false (show ¬ 2 = p + 5 - p by omega), Bool.false_and]
    have g0 := hb 0 (by omega)
    have g1 := hb 1 (by omega)
    have g2 := hb 2 (by omega)
    have g3 := hb 3 (by omega)
    have g4 := hb 4 (by omega)
    symm
    apply decide_eq_false
    simp only [pw]
    omega
  · rw [decide_eq_false (show ¬ 2 = p + 6 - p by omega), Bool.false_and]
    have g0 := hb 0 (by omega)
    have g1 := hb 1 (by omega)
    have g2 := hb 2 (by omega)
    have g3 := hb 3 (by omega)
    have g4 := hb 4 (by omega)
    have g5 := hb 5 (by omega)
    symm
    apply decide_eq_false
    simp only [pw]
    omega
  · rw [decide_eq_false (show ¬ 2 = p + 7 - p by omega), Bool.false_and]
    have g0 := hb 0 (by omega)
    have g1 := hb 1 (by omega)
    have g2 := hb 2 (by omega)
    have g3 := hb 3 (by omega)
    have g4 := hb 4 (by omega)
    have g5 := hb 5 (by omega)
    have g6 := hb 6 (by omega)
    symm
    apply decide_eq_false
    simp only [pw]
    omega
theorem wd_21 {B : Nat → Int} {n p L : Nat} (h1 : 1 ≤ L) (h7 : L ≤ 7) (hb : ∀ k, k < L → 65 ≤ bt B n (p + k) ∧ bt B n (p + k) ≤ 122) : wdF B n p (p + L) 21 = decide (pw B n p L = 6385252) := by
  have hs : sbl 21 = 3 := rfl
  have hc : L = 1 ∨ L = 2 ∨ L = 3 ∨ L = 4 ∨ L = 5 ∨ L = 6 ∨ L = 7 := by omega
  unfold wdF mtc
  rw [hs]
  rcases hc with rfl | rfl | rfl | rfl | rfl | rfl | rfl
  · rw [decide_eq_false (show ¬ 3 = p + 1 - p by omega), Bool.false_and]
    have g0 := hb 0 (by omega)
    symm
    apply decide_eq_false
    simp only [pw]
    omega
  · rw [decide_eq_false (show ¬ 3 = p + 2 - p by omega), Bool.false_and]
    have g0 := hb 0 (by omega)
    have g1 := hb 1 (by omega)
    symm
    apply decide_eq_false
    simp only [pw]
    omega
  · have g0 := hb 0 (by omega)
    have g1 := hb 1 (by omega)
    have g2 := hb 2 (by omega)
    rw [decide_eq_true (show 3 = p + 3 - p by omega), Bool.true_and]
    have s0 : sbf 21 0 = 97 := rfl
    have s1 : sbf 21 1 = 110 := rfl
    have s2 : sbf 21 2 = 100 := rfl
    rw [Bool.eq_iff_iff, decide_eq_true_iff]
    simp only [alm, pw, Bool.true_and, Bool.and_eq_true, decide_eq_true_eq, s0, s1, s2]
    constructor
    · intro z
      omega
    · intro z
      refine ⟨⟨?_, ?_⟩, ?_⟩ <;> omega
  · rw [decide_eq_false (show ¬ 3 = p + 4 - p by omega), Bool.false_and]
    have g0 := hb 0 (by omega)
    have g1 := hb 1 (by omega)
    have g2 := hb 2 (by omega)
    have g3 := hb 3 (by omega)
    symm
    apply decide_eq_false
    simp only [pw]
    omega
  · rw [decide_eq_false (show ¬ 3 = p + 5 - p by omega), Bool.false_and]
    have g0 := hb 0 (by omega)
    have g1 := hb 1 (by omega)
    have g2 := hb 2 (by omega)
    have g3 := hb 3 (by omega)
    have g4 := hb 4 (by omega)
    symm
    apply decide_eq_false
    simp only [pw]
    omega
  · rw [decide_eq_false (show ¬ 3 = p + 6 - p by omega), Bool.false_and]
    have g0 := hb 0 (by omega)
    have g1 := hb 1 (by omega)
    have g2 := hb 2 (by omega)
    have g3 := hb 3 (by omega)
    have g4 := hb 4 (by omega)
    have g5 := hb 5 (by omega)
    symm
    apply decide_eq_false
    simp only [pw]
    omega
  · rw [decide_eq_false (show ¬ 3 = p + 7 - p by omega), Bool.false_and]
    have g0 := hb 0 (by omega)
    have g1 := hb 1 (by omega)
    have g2 := hb 2 (by omega)
    have g3 := hb 3 (by omega)
    have g4 := hb 4 (by omega)
    have g5 := hb 5 (by omega)
    have g6 := hb 6 (by omega)
    symm
    apply decide_eq_false
    simp only [pw]
    omega
theorem wd_22 {B : Nat → Int} {n p L : Nat} (h1 : 1 ≤ L) (h7 : L ≤ 7) (hb : ∀ k, k < L → 65 ≤ bt B n (p + k) ∧ bt B n (p + k) ≤ 122) : wdF B n p (p + L) 22 = decide (pw B n p L = 7237492) := by
  have hs : sbl 22 = 3 := rfl
  have hc : L = 1 ∨ L = 2 ∨ L = 3 ∨ L = 4 ∨ L = 5 ∨ L = 6 ∨ L = 7 := by omega
  unfold wdF mtc
  rw [hs]
  rcases hc with rfl | rfl | rfl | rfl | rfl | rfl | rfl
  · rw [decide_eq_false (show ¬ 3 = p + 1 - p by omega), Bool.false_and]
    have g0 := hb 0 (by omega)
    symm
    apply decide_eq_false
    simp only [pw]
    omega
  · rw [decide_eq_false (show ¬ 3 = p + 2 - p by omega), Bool.false_and]
    have g0 := hb 0 (by omega)
    have g1 := hb 1 (by omega)
    symm
    apply decide_eq_false
    simp only [pw]
    omega
  · have g0 := hb 0 (by omega)
    have g1 := hb 1 (by omega)
    have g2 := hb 2 (by omega)
    rw [decide_eq_true (show 3 = p + 3 - p by omega), Bool.true_and]
    have s0 : sbf 22 0 = 110 := rfl
    have s1 : sbf 22 1 = 111 := rfl
    have s2 : sbf 22 2 = 116 := rfl
    rw [Bool.eq_iff_iff, decide_eq_true_iff]
    simp only [alm, pw, Bool.true_and, Bool.and_eq_true, decide_eq_true_eq, s0, s1, s2]
    constructor
    · intro z
      omega
    · intro z
      refine ⟨⟨?_, ?_⟩, ?_⟩ <;> omega
  · rw [decide_eq_false (show ¬ 3 = p + 4 - p by omega), Bool.false_and]
    have g0 := hb 0 (by omega)
    have g1 := hb 1 (by omega)
    have g2 := hb 2 (by omega)
    have g3 := hb 3 (by omega)
    symm
    apply decide_eq_false
    simp only [pw]
    omega
  · rw [decide_eq_false (show ¬ 3 = p + 5 - p by omega), Bool.false_and]
    have g0 := hb 0 (by omega)
    have g1 := hb 1 (by omega)
    have g2 := hb 2 (by omega)
    have g3 := hb 3 (by omega)
    have g4 := hb 4 (by omega)
    symm
    apply decide_eq_false
    simp only [pw]
    omega
  · rw [decide_eq_false (show ¬ 3 = p + 6 - p by omega), Bool.false_and]
    have g0 := hb 0 (by omega)
    have g1 := hb 1 (by omega)
    have g2 := hb 2 (by omega)
    have g3 := hb 3 (by omega)
    have g4 := hb 4 (by omega)
    have g5 := hb 5 (by omega)
    symm
    apply decide_eq_false
    simp only [pw]
    omega
  · rw [decide_eq_false (show ¬ 3 = p + 7 - p by omega), Bool.false_and]
    have g0 := hb 0 (by omega)
    have g1 := hb 1 (by omega)
    have g2 := hb 2 (by omega)
    have g3 := hb 3 (by omega)
    have g4 := hb 4 (by omega)
    have g5 := hb 5 (by omega)
    have g6 := hb 6 (by omega)
    symm
    apply decide_eq_false
    simp only [pw]
    omega
theorem wd_23 {B : Nat → Int} {n p L : Nat} (h1 : 1 ≤ L) (h7 : L ≤ 7) (hb : ∀ k, k < L → 65 ≤ bt B n (p + k) ∧ bt B n (p + k) ≤ 122) : wdF B n p (p + L) 23 = decide (pw B n p L = 7825519) := by
  have hs : sbl 23 = 3 := rfl
  have hc : L = 1 ∨ L = 2 ∨ L = 3 ∨ L = 4 ∨ L = 5 ∨ L = 6 ∨ L = 7 := by omega
  unfold wdF mtc
  rw [hs]
  rcases hc with rfl | rfl | rfl | rfl | rfl | rfl | rfl
  · rw [decide_eq_false (show ¬ 3 = p + 1 - p by omega), Bool.false_and]
    have g0 := hb 0 (by omega)
    symm
    apply decide_eq_false
    simp only [pw]
    omega
  · rw [decide_eq_false (show ¬ 3 = p + 2 - p by omega), Bool.false_and]
    have g0 := hb 0 (by omega)
    have g1 := hb 1 (by omega)
    symm
    apply decide_eq_false
    simp only [pw]
    omega
  · have g0 := hb 0 (by omega)
    have g1 := hb 1 (by omega)
    have g2 := hb 2 (by omega)
    rw [decide_eq_true (show 3 = p + 3 - p by omega), Bool.true_and]
    have s0 : sbf 23 0 = 119 := rfl
    have s1 : sbf 23 1 = 104 := rfl
    have s2 : sbf 23 2 = 111 := rfl
    rw [Bool.eq_iff_iff, decide_eq_true_iff]
    simp only [alm, pw, Bool.true_and, Bool.and_eq_true, decide_eq_true_eq, s0, s1, s2]
    constructor
    · intro z
      omega
    · intro z
      refine ⟨⟨?_, ?_⟩, ?_⟩ <;> omega
  · rw [decide_eq_false (show ¬ 3 = p + 4 - p by omega), Bool.false_and]
    have g0 := hb 0 (by omega)
    have g1 := hb 1 (by omega)
    have g2 := hb 2 (by omega)
    have g3 := hb 3 (by omega)
    symm
    apply decide_eq_false
    simp only [pw]
    omega
  · rw [decide_eq_false (show ¬ 3 = p + 5 - p by omega), Bool.false_and]
    have g0 := hb 0 (by omega)
    have g1 := hb 1 (by omega)
    have g2 := hb 2 (by omega)
    have g3 := hb 3 (by omega)
    have g4 := hb 4 (by omega)
    symm
    apply decide_eq_false
    simp only [pw]
    omega
  · rw [decide_eq_false (show ¬ 3 = p + 6 - p by omega), Bool.false_and]
    have g0 := hb 0 (by omega)
    have g1 := hb 1 (by omega)
    have g2 := hb 2 (by omega)
    have g3 := hb 3 (by omega)
    have g4 := hb 4 (by omega)
    have g5 := hb 5 (by omega)
    symm
    apply decide_eq_false
    simp only [pw]
    omega
  · rw [decide_eq_false (show ¬ 3 = p + 7 - p by omega), Bool.false_and]
    have g0 := hb 0 (by omega)
    have g1 := hb 1 (by omega)
    have g2 := hb 2 (by omega)
    have g3 := hb 3 (by omega)
    have g4 := hb 4 (by omega)
    have g5 := hb 5 (by omega)
    have g6 := hb 6 (by omega)
    symm
    apply decide_eq_false
    simp only [pw]
    omega
theorem wd_24 {B : Nat → Int} {n p L : Nat} (h1 : 1 ≤ L) (h7 : L ≤ 7) (hb : ∀ k, k < L → 65 ≤ bt B n (p + k) ∧ bt B n (p + k) ≤ 122) : wdF B n p (p + L) 24 = decide (pw B n p L = 469786323827) := by
  have hs : sbl 24 = 5 := rfl
  have hc : L = 1 ∨ L = 2 ∨ L = 3 ∨ L = 4 ∨ L = 5 ∨ L = 6 ∨ L = 7 := by omega
  unfold wdF mtc
  rw [hs]
  rcases hc with rfl | rfl | rfl | rfl | rfl | rfl | rfl
  · rw [decide_eq_false (show ¬ 5 = p + 1 - p by omega), Bool.false_and]
    have g0 := hb 0 (by omega)
    symm
    apply decide_eq_false
    simp only [pw]
    omega
  · rw [decide_eq_false (show ¬ 5 = p + 2 - p by omega), Bool.false_and]
    have g0 := hb 0 (by omega)
    have g1 := hb 1 (by omega)
    symm
    apply decide_eq_false
    simp only [pw]
    omega
  · rw [decide_eq_false (show ¬ 5 = p + 3 - p by omega), Bool.false_and]
    have g0 := hb 0 (by omega)
    have g1 := hb 1 (by omega)
    have g2 := hb 2 (by omega)
    symm
    apply decide_eq_false
    simp only [pw]
    omega
  · rw [decide_eq_false (show ¬ 5 = p + 4 - p by omega), Bool.false_and]
    have g0 := hb 0 (by omega)
    have g1 := hb 1 (by omega)
    have g2 := hb 2 (by omega)
    have g3 := hb 3 (by omega)
    symm
    apply decide_eq_false
    simp only [pw]
    omega
  · have g0 := hb 0 (by omega)
    have g1 := hb 1 (by omega)
    have g2 := hb 2 (by omega)
    have g3 := hb 3 (by omega)
    have g4 := hb 4 (by omega)
    rw [decide_eq_true (show 5 = p + 5 - p by omega), Bool.true_and]
    have s0 : sbf 24 0 = 109 := rfl
    have s1 : sbf 24 1 = 97 := rfl
    have s2 : sbf 24 2 = 114 := rfl
    have s3 : sbf 24 3 = 107 := rfl
    have s4 : sbf 24 4 = 115 := rfl
    rw [Bool.eq_iff_iff, decide_eq_true_iff]
    simp only [alm, pw, Bool.true_and, Bool.and_eq_true, decide_eq_true_eq, s0, s1, s2, s3, s4]
    constructor
    · intro z
      omega
    · intro z
      refine ⟨⟨⟨⟨?_, ?_⟩, ?_⟩, ?_⟩, ?_⟩ <;> omega
  · rw [decide_eq_false (show ¬ 5 = p + 6 - p by omega), Bool.false_and]
    have g0 := hb 0 (by omega)
    have g1 := hb 1 (by omega)
    have g2 := hb 2 (by omega)
    have g3 := hb 3 (by omega)
    have g4 := hb 4 (by omega)
    have g5 := hb 5 (by omega)
    symm
    apply decide_eq_false
    simp only [pw]
    omega
  · rw [decide_eq_false (show ¬ 5 = p + 7 - p by omega), Bool.false_and]
    have g0 := hb 0 (by omega)
    have g1 := hb 1 (by omega)
    have g2 := hb 2 (by omega)
    have g3 := hb 3 (by omega)
    have g4 := hb 4 (by omega)
    have g5 := hb 5 (by omega)
    have g6 := hb 6 (by omega)
    symm
    apply decide_eq_false
    simp only [pw]
    omega
theorem wd_25 {B : Nat → Int} {n p L : Nat} (h1 : 1 ≤ L) (h7 : L ≤ 7) (hb : ∀ k, k < L → 65 ≤ bt B n (p + k) ∧ bt B n (p + k) ≤ 122) : wdF B n p (p + L) 25 = decide (pw B n p L = 6578553) := by
  have hs : sbl 25 = 3 := rfl
  have hc : L = 1 ∨ L = 2 ∨ L = 3 ∨ L = 4 ∨ L = 5 ∨ L = 6 ∨ L = 7 := by omega
  unfold wdF mtc
  rw [hs]
  rcases hc with rfl | rfl | rfl | rfl | rfl | rfl | rfl
  · rw [decide_eq_false (show ¬ 3 = p + 1 - p by omega), Bool.false_and]
    have g0 := hb 0 (by omega)
    symm
    apply decide_eq_false
    simp only [pw]
    omega
  · rw [decide_eq_false (show ¬ 3 = p + 2 - p by omega), Bool.false_and]
    have g0 := hb 0 (by omega)
    have g1 := hb 1 (by omega)
    symm
    apply decide_eq_false
    simp only [pw]
    omega
  · have g0 := hb 0 (by omega)
    have g1 := hb 1 (by omega)
    have g2 := hb 2 (by omega)
    rw [decide_eq_true (show 3 = p + 3 - p by omega), Bool.true_and]
    have s0 : sbf 25 0 = 100 := rfl
    have s1 : sbf 25 1 = 97 := rfl
    have s2 : sbf 25 2 = 121 := rfl
    rw [Bool.eq_iff_iff, decide_eq_true_iff]
    simp only [alm, pw, Bool.true_and, Bool.and_eq_true, decide_eq_true_eq, s0, s1, s2]
    constructor
    · intro z
      omega
    · intro z
      refine ⟨⟨?_, ?_⟩, ?_⟩ <;> omega
  · rw [decide_eq_false (show ¬ 3 = p + 4 - p by omega), Bool.false_and]
    have g0 := hb 0 (by omega)
    have g1 := hb 1 (by omega)
    have g2 := hb 2 (by omega)
    have g3 := hb 3 (by omega)
    symm
    apply decide_eq_false
    simp only [pw]
    omega
  · rw [decide_eq_false (show ¬ 3 = p + 5 - p by omega), Bool.false_and]
    have g0 := hb 0 (by omega)
    have g1 := hb 1 (by omega)
    have g2 := hb 2 (by omega)
    have g3 := hb 3 (by omega)
    have g4 := hb 4 (by omega)
    symm
    apply decide_eq_false
    simp only [pw]
    omega
  · rw [decide_eq_false (show ¬ 3 = p + 6 - p by omega), Bool.false_and]
    have g0 := hb 0 (by omega)
    have g1 := hb 1 (by omega)
    have g2 := hb 2 (by omega)
    have g3 := hb 3 (by omega)
    have g4 := hb 4 (by omega)
    have g5 := hb 5 (by omega)
    symm
    apply decide_eq_false
    simp only [pw]
    omega
  · rw [decide_eq_false (show ¬ 3 = p + 7 - p by omega), Bool.false_and]
    have g0 := hb 0 (by omega)
    have g1 := hb 1 (by omega)
    have g2 := hb 2 (by omega)
    have g3 := hb 3 (by omega)
    have g4 := hb 4 (by omega)
    have g5 := hb 5 (by omega)
    have g6 := hb 6 (by omega)
    symm
    apply decide_eq_false
    simp only [pw]
    omega
theorem wd_26 {B : Nat → Int} {n p L : Nat} (h1 : 1 ≤ L) (h7 : L ≤ 7) (hb : ∀ k, k < L → 65 ≤ bt B n (p + k) ∧ bt B n (p + k) ≤ 122) : wdF B n p (p + L) 26 = decide (pw B n p L = 1885432164) := by
  have hs : sbl 26 = 4 := rfl
  have hc : L = 1 ∨ L = 2 ∨ L = 3 ∨ L = 4 ∨ L = 5 ∨ L = 6 ∨ L = 7 := by omega
  unfold wdF mtc
  rw [hs]
  rcases hc with rfl | rfl | rfl | rfl | rfl | rfl | rfl
  · rw [decide_eq_false (show ¬ 4 = p + 1 - p by omega), Bool.false_and]
    have g0 := hb 0 (by omega)
    symm
    apply decide_eq_false
    simp only [pw]
    omega
  · rw [decide_eq_false (show ¬ 4 = p + 2 - p by omega), Bool.false_and]
    have g0 := hb 0 (by omega)
    have g1 := hb 1 (by omega)
    symm
    apply decide_eq_false
    simp only [pw]
    omega
  · rw [decide_eq_false (show ¬ 4 = p + 3 - p by omega), Bool.false_and]
    have g0 := hb 0 (by omega)
    have g1 := hb 1 (by omega)
    have g2 := hb 2 (by omega)
    symm
    apply decide_eq_false
    simp only [pw]
    omega
  · have g0 := hb 0 (by omega)
    have g1 := hb 1 (by omega)
    have g2 := hb 2 (by omega)
    have g3 := hb 3 (by omega)
    rw [decide_eq_true (show 4 = p + 4 - p by omega), Bool.true_and]
    have s0 : sbf 26 0 = 112 := rfl
    have s1 : sbf 26 1 = 97 := rfl
    have s2 : sbf 26 2 = 105 := rfl
    have s3 : sbf 26 3 = 100 := rfl
    rw [Bool.eq_iff_iff, decide_eq_true_iff]
    simp only [alm, pw, Bool.true_and, Bool.and_eq_true, decide_eq_true_eq, s0, s1, s2, s3]
    constructor
    · intro z
      omega
    · intro z
      refine ⟨⟨⟨?_, ?_⟩, ?_⟩, ?_⟩ <;> omega
  · rw [decide_eq_false (show ¬ 4 = p + 5 - p by omega), Bool.false_and]
    have g0 := hb 0 (by omega)
    have g1 := hb 1 (by omega)
    have g2 := hb 2 (by omega)
    have g3 := hb 3 (by omega)
    have g4 := hb 4 (by omega)
    symm
    apply decide_eq_false
    simp only [pw]
    omega
  · rw [decide_eq_false (show ¬ 4 = p + 6 - p by omega), Bool.false_and]
    have g0 := hb 0 (by omega)
    have g1 := hb 1 (by omega)
    have g2 := hb 2 (by omega)
    have g3 := hb 3 (by omega)
    have g4 := hb 4 (by omega)
    have g5 := hb 5 (by omega)
    symm
    apply decide_eq_false
    simp only [pw]
    omega
  · rw [decide_eq_false (show ¬ 4 = p + 7 - p by omega), Bool.false_and]
    have g0 := hb 0 (by omega)
    have g1 := hb 1 (by omega)
    have g2 := hb 2 (by omega)
    have g3 := hb 3 (by omega)
    have g4 := hb 4 (by omega)
    have g5 := hb 5 (by omega)
    have g6 := hb 6 (by omega)
    symm
    apply decide_eq_false
    simp only [pw]
    omega
theorem wd_27 {B : Nat → Int} {n p L : Nat} (h1 : 1 ≤ L) (h7 : L ≤ 7) (hb : ∀ k, k < L → 65 ≤ bt B n (p + k) ∧ bt B n (p + k) ≤ 122) : wdF B n p (p + L) 27 = decide (pw B n p L = 1919251316) := by
  have hs : sbl 27 = 4 := rfl
  have hc : L = 1 ∨ L = 2 ∨ L = 3 ∨ L = 4 ∨ L = 5 ∨ L = 6 ∨ L = 7 := by omega
  unfold wdF mtc
  rw [hs]
  rcases hc with rfl | rfl | rfl | rfl | rfl | rfl | rfl
  · rw [decide_eq_false (show ¬ 4 = p + 1 - p by omega), Bool.false_and]
    have g0 := hb 0 (by omega)
    symm
    apply decide_eq_false
    simp only [pw]
    omega
  · rw [decide_eq_false (show ¬ 4 = p + 2 - p by omega), Bool.false_and]
    have g0 := hb 0 (by omega)
    have g1 := hb 1 (by omega)
    symm
    apply decide_eq_false
    simp only [pw]
    omega
  · rw [decide_eq_false (show ¬ 4 = p + 3 - p by omega), Bool.false_and]
    have g0 := hb 0 (by omega)
    have g1 := hb 1 (by omega)
    have g2 := hb 2 (by omega)
    symm
    apply decide_eq_false
    simp only [pw]
    omega
  · have g0 := hb 0 (by omega)
    have g1 := hb 1 (by omega)
    have g2 := hb 2 (by omega)
    have g3 := hb 3 (by omega)
    rw [decide_eq_true (show 4 = p + 4 - p by omega), Bool.true_and]
    have s0 : sbf 27 0 = 114 := rfl
    have s1 : sbf 27 1 = 101 := rfl
    have s2 : sbf 27 2 = 115 := rfl
    have s3 : sbf 27 3 = 116 := rfl
    rw [Bool.eq_iff_iff, decide_eq_true_iff]
    simp only [alm, pw, Bool.true_and, Bool.and_eq_true, decide_eq_true_eq, s0, s1, s2, s3]
    constructor
    · intro z
      omega
    · intro z
      refine ⟨⟨⟨?_, ?_⟩, ?_⟩, ?_⟩ <;> omega
  · rw [decide_eq_false (show ¬ 4 = p + 5 - p by omega), Bool.false_and]
    have g0 := hb 0 (by omega)
    have g1 := hb 1 (by omega)
    have g2 := hb 2 (by omega)
    have g3 := hb 3 (by omega)
    have g4 := hb 4 (by omega)
    symm
    apply decide_eq_false
    simp only [pw]
    omega
  · rw [decide_eq_false (show ¬ 4 = p + 6 - p by omega), Bool.false_and]
    have g0 := hb 0 (by omega)
    have g1 := hb 1 (by omega)
    have g2 := hb 2 (by omega)
    have g3 := hb 3 (by omega)
    have g4 := hb 4 (by omega)
    have g5 := hb 5 (by omega)
    symm
    apply decide_eq_false
    simp only [pw]
    omega
  · rw [decide_eq_false (show ¬ 4 = p + 7 - p by omega), Bool.false_and]
    have g0 := hb 0 (by omega)
    have g1 := hb 1 (by omega)
    have g2 := hb 2 (by omega)
    have g3 := hb 3 (by omega)
    have g4 := hb 4 (by omega)
    have g5 := hb 5 (by omega)
    have g6 := hb 6 (by omega)
    symm
    apply decide_eq_false
    simp only [pw]
    omega
theorem wd_28 {B : Nat → Int} {n p L : Nat} (h1 : 1 ≤ L) (h7 : L ≤ 7) (hb : ∀ k, k < L → 65 ≤ bt B n (p + k) ∧ bt B n (p + k) ≤ 122) : wdF B n p (p + L) 28 = decide (pw B n p L = 32488805071480179) := by
  have hs : sbl 28 = 7 := rfl
  have hc : L = 1 ∨ L = 2 ∨ L = 3 ∨ L = 4 ∨ L = 5 ∨ L = 6 ∨ L = 7 := by omega
  unfold wdF mtc
  rw [hs]
  rcases hc with rfl | rfl | rfl | rfl | rfl | rfl | rfl
  · rw [decide_eq_false (show ¬ 7 = p + 1 - p by omega), Bool.false_and]
    have g0 := hb 0 (by omega)
    symm
    apply decide_eq_false
    simp only [pw]
    omega
  · rw [decide_eq_false (show ¬ 7 = p + 2 - p by omega), Bool.false_and]
    have g0 := hb 0 (by omega)
    have g1 := hb 1 (by omega)
    symm
    apply decide_eq_false
    simp only [pw]
    omega
  · rw [decide_eq_false (show ¬ 7 = p + 3 - p by omega), Bool.false_and]
    have g0 := hb 0 (by omega)
    have g1 := hb 1 (by omega)
    have g2 := hb 2 (by omega)
    symm
    apply decide_eq_false
    simp only [pw]
    omega
  · rw [decide_eq_false (show ¬ 7 = p + 4 - p by omega), Bool.false_and]
    have g0 := hb 0 (by omega)
    have g1 := hb 1 (by omega)
    have g2 := hb 2 (by omega)
    have g3 := hb 3 (by omega)
    symm
    apply decide_eq_false
    simp only [pw]
    omega
  · rw [decide_eq_false (show ¬ 7 = p + 5 - p by omega), Bool.false_and]
    have g0 := hb 0 (by omega)
    have g1 := hb 1 (by omega)
    have g2 := hb 2 (by omega)
    have g3 := hb 3 (by omega)
    have g4 := hb 4 (by omega)
    symm
    apply decide_eq_false
    simp only [pw]
    omega
  · rw [decide_eq_false (show ¬ 7 = p + 6 - p by omega), Bool.false_and]
    have g0 := hb 0 (by omega)
    have g1 := hb 1 (by omega)
    have g2 := hb 2 (by omega)
    have g3 := hb 3 (by omega)
    have g4 := hb 4 (by omega)
    have g5 := hb 5 (by omega)
    symm
    apply decide_eq_false
    simp only [pw]
    omega
  · have g0 := hb 0 (by omega)
    have g1 := hb 1 (by omega)
    have g2 := hb 2 (by omega)
    have g3 := hb 3 (by omega)
    have g4 := hb 4 (by omega)
    have g5 := hb 5 (by omega)
    have g6 := hb 6 (by omega)
    rw [decide_eq_true (show 7 = p + 7 - p by omega), Bool.true_and]
    have s0 : sbf 28 0 = 115 := rfl
    have s1 : sbf 28 1 = 108 := rfl
    have s2 : sbf 28 2 = 101 := rfl
    have s3 : sbf 28 3 = 101 := rfl
    have s4 : sbf 28 4 = 118 := rfl
    have s5 : sbf 28 5 = 101 := rfl
    have s6 : sbf 28 6 = 115 := rfl
    rw [Bool.eq_iff_iff, decide_eq_true_iff]
    simp only [alm, pw, Bool.true_and, Bool.and_eq_true, decide_eq_true_eq, s0, s1, s2, s3, s4, s5, s6]
    constructor
    · intro z
      omega
    · intro z
      refine ⟨⟨⟨⟨⟨⟨?_, ?_⟩, ?_⟩, ?_⟩, ?_⟩, ?_⟩, ?_⟩ <;> omega
theorem wd_29 {B : Nat → Int} {n p L : Nat} (h1 : 1 ≤ L) (h7 : L ≤ 7) (hb : ∀ k, k < L → 65 ≤ bt B n (p + k) ∧ bt B n (p + k) ≤ 122) : wdF B n p (p + L) 29 = decide (pw B n p L = 7824756) := by
  have hs : sbl 29 = 3 := rfl
  have hc : L = 1 ∨ L = 2 ∨ L = 3 ∨ L = 4 ∨ L = 5 ∨ L = 6 ∨ L = 7 := by omega
  unfold wdF mtc
  rw [hs]
  rcases hc with rfl | rfl | rfl | rfl | rfl | rfl | rfl
  · rw [decide_eq_false (show ¬ 3 = p + 1 - p by omega), Bool.false_and]
    have g0 := hb 0 (by omega)
    symm
    apply decide_eq_false
    simp only [pw]
    omega
  · rw [decide_eq_false (show ¬ 3 = p + 2 - p by omega), Bool.false_and]
    have g0 := hb 0 (by omega)
    have g1 := hb 1 (by omega)
    symm
    apply decide_eq_false
    simp only [pw]
    omega
  · have g0 := hb 0 (by omega)
    have g1 := hb 1 (by omega)
    have g2 := hb 2 (by omega)
    rw [decide_eq_true (show 3 = p + 3 - p by omega), Bool.true_and]
    have s0 : sbf 29 0 = 119 := rfl
    have s1 : sbf 29 1 = 101 := rfl
    have s2 : sbf 29 2 = 116 := rfl
    rw [Bool.eq_iff_iff, decide_eq_true_iff]
    simp only [alm, pw, Bool.true_and, Bool.and_eq_true, decide_eq_true_eq, s0, s1, s2]
    constructor
    · intro z
      omega
    · intro z
      refine ⟨⟨?_, ?_⟩, ?_⟩ <;> omega
  · rw [decide_eq_false (show ¬ 3 = p + 4 - p by omega), Bool.false_and]
    have g0 := hb 0 (by omega)
    have g1 := hb 1 (by omega)
    have g2 := hb 2 (by omega)
    have g3 := hb 3 (by omega)
    symm
    apply decide_eq_false
    simp only [pw]
    omega
  · rw [decide_eq_false (show ¬ 3 = p + 5 - p by omega), Bool.false_and]
    have g0 := hb 0 (by omega)
    have g1 := hb 1 (by omega)
    have g2 := hb 2 (by omega)
    have g3 := hb 3 (by omega)
    have g4 := hb 4 (by omega)
    symm
    apply decide_eq_false
    simp only [pw]
    omega
  · rw [decide_eq_false (show ¬ 3 = p + 6 - p by omega), Bool.false_and]
    have g0 := hb 0 (by omega)
    have g1 := hb 1 (by omega)
    have g2 := hb 2 (by omega)
    have g3 := hb 3 (by omega)
    have g4 := hb 4 (by omega)
    have g5 := hb 5 (by omega)
    symm
    apply decide_eq_false
    simp only [pw]
    omega
  · rw [decide_eq_false (show ¬ 3 = p + 7 - p by omega), Bool.false_and]
    have g0 := hb 0 (by omega)
    have g1 := hb 1 (by omega)
    have g2 := hb 2 (by omega)
    have g3 := hb 3 (by omega)
    have g4 := hb 4 (by omega)
    have g5 := hb 5 (by omega)
    have g6 := hb 6 (by omega)
    symm
    apply decide_eq_false
    simp only [pw]
    omega
theorem wd_big {B : Nat → Int} {n p L w : Nat} (h : 7 < L) (hw : 10 ≤ w ∧ w < 30) : wdF B n p (p + L) w = false := by
  have : ∀ w : Fin 30, 10 ≤ w.1 → sbl w.1 ≤ 7 := by decide
  have h2 := this ⟨w, hw.2⟩ hw.1
  dsimp only at h2
  unfold wdF mtc
  rw [decide_eq_false (show ¬ sbl w = p + L - p by omega), Bool.false_and]
theorem wkd_wkp {B : Nat → Int} {n s e : Nat} {x : Int} (h : ∀ w, 10 ≤ w → w < 30 → wdF B n s e w = decide (x = cw w)) : wkd B n s e 20 10 = wkp x := by
  have q10 : wdF B n s e 10 = decide (x = 1953459308) := h 10 (by decide) (by decide)
  have q11 : wdF B n s e 11 = decide (x = 1920295539) := h 11 (by decide) (by decide)
  have q12 : wdF B n s e 12 = decide (x = 7364985) := h 12 (by decide) (by decide)
  have q13 : wdF B n s e 13 = decide (x = 444300619380) := h 13 (by decide) (by decide)
  have q14 : wdF B n s e 14 = decide (x = 1885434739) := h 14 (by decide) (by decide)
  have q15 : wdF B n s e 15 = decide (x = 28518) := h 15 (by decide) (by decide)
  have q16 : wdF B n s e 16 = decide (x = 1718775661) := h 16 (by decide) (by decide)
  have q17 : wdF B n s e 17 = decide (x = 29807) := h 17 (by decide) (by decide)
  have q18 : wdF B n s e 18 = decide (x = 26982) := h 18 (by decide) (by decide)
  have q19 : wdF B n s e 19 = decide (x = 6647396) := h 19 (by decide) (by decide)
  have q20 : wdF B n s e 20 = decide (x = 28530) := h 20 (by decide) (by decide)
  have q21 : wdF B n s e 21 = decide (x = 6385252) := h 21 (by decide) (by decide)
  have q22 : wdF B n s e 22 = decide (x = 7237492) := h 22 (by decide) (by decide)
  have q23 : wdF B n s e 23 = decide (x = 7825519) := h 23 (by decide) (by decide)
  have q24 : wdF B n s e 24 = decide (x = 469786323827) := h 24 (by decide) (by decide)
  have q25 : wdF B n s e 25 = decide (x = 6578553) := h 25 (by decide) (by decide)
  have q26 : wdF B n s e 26 = decide (x = 1885432164) := h 26 (by decide) (by decide)
  have q27 : wdF B n s e 27 = decide (x = 1919251316) := h 27 (by decide) (by decide)
  have q28 : wdF B n s e 28 = decide (x = 32488805071480179) := h 28 (by decide) (by decide)
  have q29 : wdF B n s e 29 = decide (x = 7824756) := h 29 (by decide) (by decide)
  simp only [wkd, wkp, Nat.reduceAdd, q10, q11, q12, q13, q14, q15, q16, q17, q18, q19, q20, q21, q22, q23, q24, q25, q26, q27, q28, q29, decide_eq_true_eq]
  rfl
theorem wkp_bd (x : Int) : wkp x = 1 ∨ (10 ≤ wkp x ∧ wkp x ≤ 29) := by
  obtain ⟨r, hr⟩ : ∃ r, r = wkp x := ⟨_, rfl⟩
  rw [← hr]
  unfold wkp at hr
  repeat' split at hr
  all_goals omega
theorem wkp_iff (x : Int) : (wkp x = 10 ↔ x = 1953459308) ∧ (wkp x = 11 ↔ x = 1920295539) ∧ (wkp x = 12 ↔ x = 7364985) ∧ (wkp x = 13 ↔ x = 444300619380) ∧ (wkp x = 14 ↔ x = 1885434739) ∧ (wkp x = 15 ↔ x = 28518) ∧ (wkp x = 16 ↔ x = 1718775661) ∧ (wkp x = 17 ↔ x = 29807) ∧ (wkp x = 18 ↔ x = 26982) ∧ (wkp x = 19 ↔ x = 6647396) ∧ (wkp x = 20 ↔ x = 28530) ∧ (wkp x = 21 ↔ x = 6385252) ∧ (wkp x = 22 ↔ x = 7237492) ∧ (wkp x = 23 ↔ x = 7825519) ∧ (wkp x = 24 ↔ x = 469786323827) ∧ (wkp x = 25 ↔ x = 6578553) ∧ (wkp x = 26 ↔ x = 1885432164) ∧ (wkp x = 27 ↔ x = 1919251316) ∧ (wkp x = 28 ↔ x = 32488805071480179) ∧ (wkp x = 29 ↔ x = 7824756) := by
  obtain ⟨r, hr⟩ : ∃ r, r = wkp x := ⟨_, rfl⟩
  rw [← hr]
  unfold wkp at hr
  repeat' split at hr
  all_goals (refine ⟨?_, ?_, ?_, ?_, ?_, ?_, ?_, ?_, ?_, ?_, ?_, ?_, ?_, ?_, ?_, ?_, ?_, ?_, ?_, ?_⟩ <;> omega)
