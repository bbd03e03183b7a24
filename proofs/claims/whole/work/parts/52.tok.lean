/-! the class: Tokens, third part: one token, all tokens -/
def sgw (B : Nat → Int) (n p : Nat) : Int := sgk (bt B n p) (decide (bt B n (p + 1) = 61))
def tkk (B : Nat → Int) (n p : Nat) : Int := if bt B n p = -1 then 0 else if isLe (bt B n p) = true then wkd B n p (rne isLe B n 300 p) 20 10 else if isDi (bt B n p) = true then 3 else sgw B n p
def tkn (B : Nat → Int) (n p : Nat) : Int := if isDi (bt B n p) = true then dgv B n 300 p 0 else 0
def tke (B : Nat → Int) (n p : Nat) : Nat := if bt B n p = -1 then p else if isLe (bt B n p) = true then rne isLe B n 300 p else if isDi (bt B n p) = true then rne isDi B n 300 p else if sgw B n p = 41 ∨ sgw B n p = 43 then p + 2 else p + 1
def tpl (B : Nat → Int) (n q : Nat) : Nat := rne isBl B n 300 q
def tat (B : Nat → Int) (n : Nat) : Nat → Nat
  | 0 => 0
  | i + 1 => tke B n (tpl B n (tat B n i))
def tP (B : Nat → Int) (n i : Nat) : Nat := tpl B n (tat B n i)
def tK (B : Nat → Int) (n i : Nat) : Int := tkk B n (tP B n i)
def tN (B : Nat → Int) (n i : Nat) : Int := tkn B n (tP B n i)
theorem bt_m1 {B : Nat → Int} {n p : Nat} (H : BY B) (hn : n ≤ 300) : bt B n p = -1 ↔ n ≤ p := by
  unfold bt
  split
  · have := H p (by omega)
    omega
  · omega
theorem wkd_bd {B : Nat → Int} {n s e : Nat} : ∀ (g w : Nat), w + g = 30 → 10 ≤ w → (wkd B n s e g w = 1 ∨ (10 ≤ wkd B n s e g w ∧ wkd B n s e g w ≤ 29))
  | 0, w, _, _ => Or.inl rfl
  | g + 1, w, h, h2 => by
    rw [wkd]
    split
    · omega
    · exact wkd_bd g (w + 1) (by omega) (by omega)
theorem sgk_bd (c : Int) (l : Bool) : sgk c l = 1 ∨ (40 ≤ sgk c l ∧ sgk c l ≤ 54) := by
  obtain ⟨r, hr⟩ : ∃ r, r = sgk c l := ⟨_, rfl⟩
  rw [← hr]
  unfold sgk at hr
  repeat' split at hr
  all_goals omega
theorem tkk_bd {B : Nat → Int} {n p : Nat} : (tkk B n p = 0 ∧ bt B n p = -1) ∨ (bt B n p ≠ -1 ∧ (tkk B n p = 1 ∨ tkk B n p = 3 ∨ (10 ≤ tkk B n p ∧ tkk B n p ≤ 29) ∨ (40 ≤ tkk B n p ∧ tkk B n p ≤ 54))) := by
  unfold tkk
  split
  · rename_i c
    exact Or.inl ⟨rfl, c⟩
  · rename_i c
    refine Or.inr ⟨c, ?_⟩
    split
    · have := wkd_bd (B := B) (n := n) (s := p) (e := rne isLe B n 300 p) 20 10 rfl (by omega)
      omega
    · split
      · omega
      · have := sgk_bd (bt B n p) (decide (bt B n (p + 1) = 61))
        unfold sgw
        omega
theorem sgk_2 {c : Int} {l : Bool} (h : sgk c l = 41 ∨ sgk c l = 43) : l = true := by
  cases l with
  | true => rfl
  | false =>
    exfalso
    obtain ⟨r, hr⟩ : ∃ r, r = sgk c false := ⟨_, rfl⟩
    rw [← hr] at h
    unfold sgk at hr
    simp only [Bool.false_eq_true, if_false] at hr
    repeat' split at hr
    all_goals omega
theorem rne_pos {P : Int → Bool} {B : Nat → Int} {n p : Nat} (hP : TKP P) (h : P (bt B n p) = true) : p + 1 ≤ rne P B n 300 p ∧ rne P B n 300 p ≤ n := by
  show p + 1 ≤ rne P B n (299 + 1) p ∧ rne P B n (299 + 1) p ≤ n
  rw [rne, if_pos h]
  have := rne_bd (B := B) (n := n) hP 299 (p + 1) (tk_lt hP h)
  omega
/-- a token that isn't the end takes a byte at least -/
theorem tke_bd {B : Nat → Int} {n p : Nat} (H : BY B) (hn : n ≤ 300) (hp : p ≤ n) : (n ≤ p → tke B n p = p) ∧ (p < n → p + 1 ≤ tke B n p ∧ tke B n p ≤ n) := by
  have h1 := bt_m1 (p := p) H hn
  constructor
  · intro h
    unfold tke
    rw [if_pos (h1.2 h)]
  · intro h
    unfold tke
    rw [if_neg (by omega)]
    split
    · rename_i c
      exact rne_pos le_k c
    · split
      · rename_i c
        exact rne_pos di_k c
      · split
        · rename_i c
          have h2 := of_decide_eq_true (sgk_2 (show sgk (bt B n p) (decide (bt B n (p + 1) = 61)) = 41 ∨ sgk (bt B n p) (decide (bt B n (p + 1) = 61)) = 43 from c))
          have h3 := bt_m1 (p := p + 1) H hn
          omega
        · omega
theorem tpl_bd {B : Nat → Int} {n q : Nat} (hq : q ≤ n) : q ≤ tpl B n q ∧ tpl B n q ≤ n := rne_bd bl_k 300 q hq
theorem tat_bd {B : Nat → Int} {n : Nat} (H : BY B) (hn : n ≤ 300) : ∀ i, tat B n i ≤ n
  | 0 => Nat.zero_le n
  | i + 1 => by
    have h1 := tat_bd H hn i
    have h2 := tpl_bd (B := B) h1
    have h3 := tke_bd (p := tpl B n (tat B n i)) H hn h2.2
    rw [tat]
    omega
theorem tP_bd {B : Nat → Int} {n : Nat} (H : BY B) (hn : n ≤ 300) (i : Nat) : tat B n i ≤ tP B n i ∧ tP B n i ≤ n := tpl_bd (tat_bd H hn i)
theorem tK_0 {B : Nat → Int} {n : Nat} (H : BY B) (hn : n ≤ 300) (i : Nat) : tK B n i = 0 ↔ tP B n i = n := by
  have h1 := tkk_bd (B := B) (n := n) (p := tP B n i)
  have h2 := bt_m1 (p := tP B n i) H hn
  have h3 := tP_bd H hn i
  unfold tK
  omega
/-- behind the end stands the end -/
theorem tK_0s {B : Nat → Int} {n : Nat} (H : BY B) (hn : n ≤ 300) {i : Nat} (h : tK B n i = 0) : tat B n (i + 1) = n ∧ tK B n (i + 1) = 0 := by
  have h1 := (tK_0 H hn i).1 h
  have e : tat B n (i + 1) = n := by
    rw [tat]
    have h3 := (tke_bd (p := tP B n i) H hn (by omega)).1 (by omega)
    unfold tP at h3 h1
    omega
  refine ⟨e, (tK_0 H hn (i + 1)).2 ?_⟩
  have h4 := tP_bd H hn (i + 1)
  omega
theorem tK_0m {B : Nat → Int} {n : Nat} (H : BY B) (hn : n ≤ 300) {i : Nat} (h : tK B n i = 0) : ∀ j, i ≤ j → tK B n j = 0 ∧ tP B n j = n := by
  intro j hj
  have : tK B n j = 0 := by
    induction hj with
    | refl => exact h
    | step _ ih => exact (tK_0s H hn ih).2
  exact ⟨this, (tK_0 H hn j).1 this⟩
theorem tat_ge {B : Nat → Int} {n : Nat} (H : BY B) (hn : n ≤ 300) : ∀ i, (∀ j, j < i → tK B n j ≠ 0) → i ≤ tat B n i
  | 0, _ => Nat.zero_le _
  | i + 1, h => by
    have ih := tat_ge H hn i (fun j hj => h j (by omega))
    have h1 := tP_bd H hn i
    have h2 : tP B n i ≠ n := fun z => h i (by omega) ((tK_0 H hn i).2 z)
    have h3 := (tke_bd (p := tP B n i) H hn h1.2).2 (by omega)
    rw [tat]
    unfold tP at h3 h1
    omega
theorem tK_bd {B : Nat → Int} {n i : Nat} : tK B n i = 0 ∨ tK B n i = 1 ∨ tK B n i = 3 ∨ (10 ≤ tK B n i ∧ tK B n i ≤ 29) ∨ (40 ≤ tK B n i ∧ tK B n i ≤ 54) := by
  have := tkk_bd (B := B) (n := n) (p := tP B n i)
  unfold tK
  omega
theorem dgv_bd {B : Nat → Int} {n : Nat} : ∀ (g p : Nat) (v : Int), 0 ≤ v → v ≤ 10000 → 0 ≤ dgv B n g p v ∧ dgv B n g p v ≤ 10000
  | 0, p, v, h1, h2 => ⟨h1, h2⟩
  | g + 1, p, v, h1, h2 => by
    rw [dgv]
    split
    · rename_i c
      have := of_decide_eq_true c
      exact dgv_bd g (p + 1) _ (by split <;> omega) (by split <;> omega)
    · exact ⟨h1, h2⟩
theorem tN_bd {B : Nat → Int} {n i : Nat} : 0 ≤ tN B n i ∧ tN B n i ≤ 10000 := by
  unfold tN tkn
  split
  · exact dgv_bd 300 _ 0 (by omega) (by omega)
  · omega
