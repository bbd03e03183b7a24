/-! the bell: the largest rests first -/
def cnx (f : Nat → Bool) : Nat → Int
  | 0 => 0
  | j + 1 => if f j = true then cnx f j + 1 else cnx f j
theorem blr_cnx {n : Int} {mk : Nat → Int} {S who : Int} : ∀ j : Nat, blr n mk S who j = cnx (blb n mk S who) j
  | 0 => rfl
  | j + 1 => by rw [blr, cnx, blr_cnx j]
theorem cnx_le {f g : Nat → Bool} : ∀ n : Nat, (∀ j, j < n → f j = true → g j = true) → cnx f n ≤ cnx g n
  | 0, _ => Int.le_refl _
  | n + 1, h => by
    have ih := cnx_le n (fun j hj => h j (by omega))
    have h9 := h n (by omega)
    rw [cnx, cnx]
    by_cases c : f n = true
    · rw [if_pos c, if_pos (h9 c)]
      omega
    · rw [if_neg c]
      split <;> omega
theorem cnx_lt {f g : Nat → Bool} {k : Nat} : ∀ n : Nat, k < n → (∀ j, j < n → f j = true → g j = true) → f k = false → g k = true → cnx f n + 1 ≤ cnx g n
  | 0, h, _, _, _ => absurd h (by omega)
  | n + 1, hk, h, h1, h2 => by
    have h9 := h n (by omega)
    rw [cnx, cnx]
    by_cases z : k = n
    · have ih := cnx_le n (fun j hj => h j (by omega))
      rw [← z, if_neg (by rw [h1]; decide), if_pos h2, z]
      omega
    · have ih := cnx_lt n (by omega) (fun j hj => h j (by omega)) h1 h2
      by_cases c : f n = true
      · rw [if_pos c, if_pos (h9 c)]
        omega
      · rw [if_neg c]
        split <;> omega
theorem cnx_all {f : Nat → Bool} : ∀ n : Nat, (∀ j, j < n → f j = true) → cnx f n = (n : Int)
  | 0, _ => rfl
  | n + 1, h => by
    rw [cnx, if_pos (h n (by omega)), cnx_all n (fun j hj => h j (by omega))]
    rfl
theorem cnx_u {g : Nat → Bool} {m : Nat} (hm : g m = false) : ∀ n : Nat, cnx (fun j => if j = m then true else g j) n = cnx g n + (if m < n then 1 else 0)
  | 0 => by
    rw [if_neg (by omega)]
    rfl
  | n + 1 => by
    rw [cnx, cnx, cnx_u hm n]
    by_cases z : n = m
    · rw [z, if_pos (if_pos rfl), if_neg (by omega), if_neg (by rw [hm]; decide), if_pos (by omega)]
      omega
    · rw [if_neg z]
      by_cases c : m < n
      · rw [if_pos c, if_pos (show m < n + 1 by omega)]
        split <;> omega
      · rw [if_neg c, if_neg (show ¬ m < n + 1 by omega)]
        split <;> omega
def rsm (n : Int) (mk : Nat → Int) (S : Int) : Nat → Int
  | 0 => 0
  | j + 1 => rsm n mk S j + n * mk j % S
theorem rsm_eq {n S : Int} {mk : Nat → Int} : ∀ j : Nat, rsm n mk S j = n * smk mk j - S * (n - blf n mk S j)
  | 0 => by simp [rsm, smk, blf]
  | j + 1 => by
    rw [rsm, smk, blf, rsm_eq j, Int.emod_def]
    simp only [Int.mul_sub, Int.mul_add]
    omega
theorem rsm_bd {n S : Int} {mk : Nat → Int} (hS : 1 ≤ S) : ∀ j : Nat, 0 ≤ rsm n mk S j ∧ rsm n mk S j ≤ (j : Int) * (S - 1)
  | 0 => by simp [rsm]
  | j + 1 => by
    have ih := rsm_bd (n := n) (mk := mk) hS j
    have h1 := Int.emod_nonneg (n * mk j) (show S ≠ 0 by omega)
    have h2 := Int.emod_lt_of_pos (n * mk j) (show 0 < S by omega)
    rw [rsm, show ((j + 1 : Nat) : Int) = (j : Int) + 1 from rfl, Int.add_mul]
    omega
theorem blf_lt {n S : Int} {mk : Nat → Int} {nf : Nat} (hS : 1 ≤ S) (hSS : smk mk nf = S) (hn : 1 ≤ nf) : 0 ≤ blf n mk S nf ∧ blf n mk S nf < (nf : Int) := by
  have e := rsm_eq (n := n) (S := S) (mk := mk) nf
  have b := rsm_bd (n := n) (mk := mk) hS nf
  rw [hSS] at e
  have e2 : rsm n mk S nf = S * blf n mk S nf := by
    rw [e, Int.mul_sub, Int.mul_comm n S]
    omega
  rw [e2, Int.mul_sub, Int.mul_comm (nf : Int) S] at b
  constructor
  · by_cases c : 0 ≤ blf n mk S nf
    · exact c
    · have := Int.mul_le_mul_of_nonneg_left (show blf n mk S nf ≤ -1 by omega) (show 0 ≤ S by omega)
      omega
  · by_cases c : blf n mk S nf < (nf : Int)
    · exact c
    · have := Int.mul_le_mul_of_nonneg_left (show (nf : Int) ≤ blf n mk S nf by omega) (show 0 ≤ S by omega)
      omega
def BG (nf : Nat) (r b py cu : Nat → Int) (g : Nat → Bool) : Prop := ∀ p, p < nf → py p = b p + (if g p = true then 1 else 0) ∧ cu p = (if g p = true then -1 else r p)
def BU (nf : Nat) (r : Nat → Int) (g : Nat → Bool) : Prop := ∀ p q, p < nf → q < nf → g p = true → g q = false → (r q < r p ∨ (r p = r q ∧ p < q))
theorem bg_un {nf : Nat} {r b py cu : Nat → Int} {g : Nat → Bool} {m : Nat} (hm : m < nf) (hr : ∀ p, 0 ≤ r p) (H : BG nf r b py cu g) (hmx : ∀ i, i < nf → cu i ≤ cu m) (hc : cnx g nf < (nf : Int)) : g m = false := by
  cases e : g m with
  | false => rfl
  | true =>
    exfalso
    have hall : ∀ j, j < nf → g j = true := by
      intro j hj
      cases e2 : g j with
      | true => rfl
      | false =>
        exfalso
        have h1 := (H j hj).2
        have h2 := (H m hm).2
        have h3 := hmx j hj
        rw [e2, if_neg (by decide)] at h1
        rw [e, if_pos rfl] at h2
        have := hr j
        omega
    have := cnx_all nf hall
    omega
theorem bg_st {nf : Nat} {r b py cu : Nat → Int} {g : Nat → Bool} {m : Nat} (hm : m < nf) (hg : g m = false) (H : BG nf r b py cu g) (U : BU nf r g) (hmx : ∀ i, i < nf → cu i ≤ cu m) (hfi : ∀ i, i < m → cu i < cu m) : BG nf r b (hc_u py m (py m + 1)) (hc_u cu m (-1)) (fun j => if j = m then true else g j) ∧ BU nf r (fun j => if j = m then true else g j) := by
  have hm2 := (H m hm).2
  rw [hg, if_neg (by decide)] at hm2
  constructor
  · intro p hp
    by_cases z : p = m
    · rw [z, hu_s, hu_s, if_pos (if_pos rfl), if_pos (if_pos rfl), (H m hm).1, hg, if_neg (by decide)]
      exact ⟨by omega, rfl⟩
    · rw [hu_n z, hu_n z]
      show (py p = b p + if (if p = m then true else g p) = true then 1 else 0) ∧ cu p = (if (if p = m then true else g p) = true then -1 else r p)
      rw [show (if p = m then true else g p) = g p from if_neg z]
      exact H p hp
  · intro p q hp hq h1 h2
    have hqm : q ≠ m := fun z => by dsimp only at h2; rw [if_pos z] at h2; exact nomatch h2
    have h2b : g q = false := by dsimp only at h2; rw [if_neg hqm] at h2; exact h2
    by_cases z : p = m
    · have hq2 := (H q hq).2
      rw [h2b, if_neg (by decide)] at hq2
      have h3 := hmx q hq
      rw [z]
      by_cases c : q < m
      · have := hfi q c
        left
        omega
      · by_cases c2 : r q < r m
        · exact Or.inl c2
        · exact Or.inr ⟨by omega, by omega⟩
    · dsimp only at h1
      rw [if_neg z] at h1
      exact U p q hp hq h1 h2b
theorem bg_end {nf : Nat} {n S : Int} {mk py cu : Nat → Int} {g : Nat → Bool} {w : Nat} (hw : w < nf) (H : BG nf (fun p => n * mk p % S) (fun p => n * mk p / S) py cu g) (U : BU nf (fun p => n * mk p % S) g) (hc : cnx g nf = blf n mk S nf) : py w = n * mk w / S + if blr n mk S (w : Int) nf < blf n mk S nf then 1 else 0 := by
  rw [(H w hw).1, blr_cnx, ← hc]
  dsimp only
  cases e : g w with
  | true =>
    have : cnx (blb n mk S (w : Int)) nf + 1 ≤ cnx g nf := by
      refine cnx_lt (k := w) nf hw (fun j hj hb => ?_) ?_ e
      · cases e2 : g j with
        | true => rfl
        | false =>
          have h1 := U w j hw hj e e2
          have h2 := of_decide_eq_true hb
          rw [Int.toNat_natCast] at h2
          dsimp only at h1
          omega
      · unfold blb
        rw [decide_eq_false]
        rw [Int.toNat_natCast]
        omega
    rw [if_pos rfl, if_pos (by omega)]
  | false =>
    have : cnx g nf ≤ cnx (blb n mk S (w : Int)) nf := by
      refine cnx_le nf (fun j hj hb => ?_)
      have h1 := U j w hj hw hb e
      dsimp only at h1
      unfold blb
      rw [decide_eq_true_eq, Int.toNat_natCast]
      omega
    rw [if_neg (by decide), if_neg (by omega)]
