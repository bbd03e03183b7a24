/-! what a text says: the reading of a sum, from its tokens (K the kinds, N the numbers) -/
abbrev sR : Type := Option ((Int × Nat) ⊕ (Nat × ef))
def sb (r : sR) (k : Nat → ef → sR) : sR := match r with
  | some (.inr (j, w)) => k j w
  | some (.inl x) => some (.inl x)
  | none => none
def nmv (k : Int) : ef := fun a b c d e => if k = 23 then a else if k = 24 then b else if k = 25 then c else if k = 26 ∨ k = 28 then d else e
def nok (law k : Int) : Bool := !(decide (law = 10 ∧ 28 ≤ k) || decide (law = 11 ∧ (k = 26 ∨ k = 27)))
def o2 (k x y : Int) : Int := if k = 46 then rk 46 x y else if k = 47 then rk 47 x y else if k = 48 then rk 48 x y else if k = 49 then rk 49 x y else if k = 40 then (if x < y then 1 else 0) else if k = 41 then (if x ≤ y then 1 else 0) else if k = 42 then (if y < x then 1 else 0) else if k = 43 then (if y ≤ x then 1 else 0) else if k = 44 then (if x = y then 1 else 0) else if k = 45 then (if ¬ x = y then 1 else 0) else if k = 20 then (if 0 < x + y then 1 else 0) else (if 1 < x + y then 1 else 0)
def op2 (k : Int) (v w : ef) : ef := fun a b c d e => clp (o2 k (v a b c d e) (w a b c d e))
def ngv (v : ef) : ef := fun a b c d e => -(v a b c d e)
def ntv (v : ef) : ef := fun a b c d e => 1 - v a b c d e
def slv (q x y : ef) : ef := fun a b c d e => if q a b c d e = 0 then y a b c d e else x a b c d e
def cnv (x : Int) : ef := fun _ _ _ _ _ => x
def sF (f : Int) (k : Nat) : sR := some (.inl (f, k))
def sO (j : Nat) (w : ef) : sR := some (.inr (j, w))
/-- 0 ONE, 1 the factors that follow, 2 SUM, 3 PRODUCT, 4 the products that follow, 5 EITHER, 6 BOTH, 7 ASK, 8 or .., 9 and .. -/
def sP (K N : Nat → Int) (law : Int) : Nat → Nat → Nat → ef → Nat → sR
  | 0, _, _, _, _ => none
  | f + 1, m, o, v, i => match m with
    | 0 => if K i = 3 then (if N i ≤ 9999 then sO (i + 1) (cnv (N i)) else sF 2 i)
      else if K i = 50 then (if 8 ≤ o then sF 3 i else sb (sP K N law f 2 (o + 1) v (i + 1)) (fun j w => if K j = 51 then sO (j + 1) w else sF 1 j))
      else if K i = 47 then (if 8 ≤ o then sF 3 i else sb (sP K N law f 0 (o + 1) v (i + 1)) (fun j w => sO j (ngv w)))
      else if K i = 18 then (if 8 ≤ o then sF 3 i else sb (sP K N law f 5 (o + 1) v (i + 1)) (fun j q => if K j = 53 then sb (sP K N law f 2 (o + 1) v (j + 1)) (fun j2 x => if K j2 = 54 then sb (sP K N law f 2 (o + 1) v (j2 + 1)) (fun j3 y => if K j3 = 19 then sO (j3 + 1) (slv q x y) else sF 1 j3) else sF 1 j2) else sF 1 j))
      else if 23 ≤ K i ∧ K i ≤ 29 then (if nok law (K i) = true then sO (i + 1) (nmv (K i)) else sF 5 i) else sF 1 i
    | 1 => if 48 ≤ K i ∧ K i ≤ 49 then sb (sP K N law f 0 o v (i + 1)) (fun j w => sP K N law f 1 o (op2 (K i) v w) j) else sO i v
    | 2 => sb (sP K N law f 3 o v i) (fun j w => sP K N law f 4 o w j)
    | 3 => sb (sP K N law f 0 o v i) (fun j w => sP K N law f 1 o w j)
    | 4 => if 46 ≤ K i ∧ K i ≤ 47 then sb (sP K N law f 3 o v (i + 1)) (fun j w => sP K N law f 4 o (op2 (K i) v w) j) else sO i v
    | 5 => sb (sP K N law f 6 o v i) (fun j w => sP K N law f 8 o w j)
    | 6 => sb (sP K N law f 7 o v i) (fun j w => sP K N law f 9 o w j)
    | 7 => if K i = 22 then (if 8 ≤ o then sF 3 i else sb (sP K N law f 7 (o + 1) v (i + 1)) (fun j w => sO j (ntv w)))
      else sb (sP K N law f 2 o v i) (fun j w => if 40 ≤ K j ∧ K j ≤ 45 then sb (sP K N law f 2 o v (j + 1)) (fun j2 u => sO j2 (op2 (K j) w u)) else sF 1 j)
    | 8 => if K i = 20 then sb (sP K N law f 6 o v (i + 1)) (fun j w => sP K N law f 8 o (op2 20 v w) j) else sO i v
    | _ => if K i = 21 then sb (sP K N law f 7 o v (i + 1)) (fun j w => sP K N law f 9 o (op2 21 v w) j) else sO i v
def i4 (lw : Int) : Nat := if lw = 10 then 26 else 28
def i5 (lw : Int) : Nat := if lw = 10 then 27 else 29
/-- the words from a to b, whatever stands around them, work out to V -/
def GC (lw : Int) (wd : Nat → Int) (a b : Nat) (V : ef) (M : Nat) : Prop := ∀ (n : Nat) (wx nm : Nat → Int), n ≤ 300 → b ≤ n → (∀ t, a ≤ t → t < b → wx t = wd t) → bnd nm → ∃ m, m ≤ M ∧ WE n wx nm a b (V (nm 23) (nm 24) (nm 25) (nm (i4 lw)) (nm (i5 lw))) m
def GB (V : ef) : Prop := ∀ a b c d e, V a b c d e = 0 ∨ V a b c d e = 1
theorem GC.mono {lw : Int} {wd wd2 : Nat → Int} {a b : Nat} {V : ef} {M M2 : Nat} (H : GC lw wd a b V M) (hM : M ≤ M2) (hw : ∀ t, a ≤ t → t < b → wd2 t = wd t) : GC lw wd2 a b V M2 := by
  intro n wx nm hn hb hx hm
  obtain ⟨m, h1, h2⟩ := H n wx nm hn hb (fun t h1 h2 => (hx t h1 h2).trans (hw t h1 h2)) hm
  exact ⟨m, by omega, h2⟩
theorem GC_num {lw : Int} {wd : Nat → Int} {a : Nat} {x : Int} {M : Nat} (hw : wd a = x * 64 + 3) (hx : 0 ≤ x ∧ x ≤ 9999) (hM : 1 ≤ M) : GC lw wd a (a + 1) (cnv x) M := by
  intro n wx nm hn hb hx2 hm
  exact ⟨1, hM, WE_num (by omega) ((hx2 a (by omega) (by omega)).trans hw) hx⟩
theorem GC_name {lw : Int} {wd : Nat → Int} {a : Nat} {x : Int} {M : Nat} (hw : wd a = x * 64 + 4) (hx : 23 ≤ x ∧ x ≤ 29) (hl : lw = 10 ∨ lw = 11) (ho : nok lw x = true) (hM : 1 ≤ M) : GC lw wd a (a + 1) (nmv x) M := by
  intro n wx nm hn hb hx2 hm
  have h1 := WE_name (n := n) (wd := wx) (nm := nm) (a := a) (nb := x) (by omega) ((hx2 a (by omega) (by omega)).trans hw) (by omega) (hm _)
  refine ⟨1, hM, ?_⟩
  have e : nmv x (nm 23) (nm 24) (nm 25) (nm (i4 lw)) (nm (i5 lw)) = nm (Int.toNat x) := by
    have hc : x = 23 ∨ x = 24 ∨ x = 25 ∨ x = 26 ∨ x = 27 ∨ x = 28 ∨ x = 29 := by omega
    rcases hl with rfl | rfl <;> rcases hc with rfl | rfl | rfl | rfl | rfl | rfl | rfl <;> first | rfl | (exact absurd ho (by decide))
  rw [e]
  exact h1
theorem GC_bin {lw : Int} {wd : Nat → Int} {a b c : Nat} {V W : ef} {M1 M2 M : Nat} {k : Int} (H1 : GC lw wd a b V M1) (H2 : GC lw wd b c W M2) (hab : a ≤ b) (hbc : b ≤ c) (hw : wd c = 0 * 64 + k) (hk : (40 ≤ k ∧ k ≤ 49) ∨ k = 20 ∨ k = 21) (h1 : M1 ≤ M) (h2 : M2 + 1 ≤ M) : GC lw wd a (c + 1) (op2 k V W) M := by
  intro n wx nm hn hb hx2 hm
  obtain ⟨m1, q1, W1⟩ := H1 n wx nm hn (by omega) (fun t h1 h2 => hx2 t h1 (by omega)) hm
  obtain ⟨m2, q2, W2⟩ := H2 n wx nm hn (by omega) (fun t h1 h2 => hx2 t (by omega) (by omega)) hm
  have hw2 := (hx2 c (by omega) (by omega)).trans hw
  refine ⟨max m1 (m2 + 1), by omega, ?_⟩
  have hc : k = 46 ∨ k = 47 ∨ k = 48 ∨ k = 49 ∨ k = 40 ∨ k = 41 ∨ k = 42 ∨ k = 43 ∨ k = 44 ∨ k = 45 ∨ k = 20 ∨ k = 21 := by omega
  rcases hc with rfl | rfl | rfl | rfl | rfl | rfl | rfl | rfl | rfl | rfl | rfl | rfl
  · exact WE_46 W1 W2 (by omega) hw2
  · exact WE_47 W1 W2 (by omega) hw2
  · exact WE_48 W1 W2 (by omega) hw2
  · exact WE_49 W1 W2 (by omega) hw2
  · exact WE_40 W1 W2 (by omega) hw2
  · exact WE_41 W1 W2 (by omega) hw2
  · exact WE_42 W1 W2 (by omega) hw2
  · exact WE_43 W1 W2 (by omega) hw2
  · exact WE_44 W1 W2 (by omega) hw2
  · exact WE_45 W1 W2 (by omega) hw2
  · exact WE_20 W1 W2 (by omega) hw2
  · exact WE_21 W1 W2 (by omega) hw2
theorem GC_neg {lw : Int} {wd : Nat → Int} {a b : Nat} {V : ef} {M M2 : Nat} (H : GC lw wd a b V M) (hab : a ≤ b) (hw : wd b = 0 * 64 + 5) (hM : M ≤ M2) : GC lw wd a (b + 1) (ngv V) M2 := by
  intro n wx nm hn hb hx2 hm
  obtain ⟨m1, q1, W1⟩ := H n wx nm hn (by omega) (fun t h1 h2 => hx2 t h1 (by omega)) hm
  exact ⟨m1, by omega, WE_neg W1 (by omega) ((hx2 b (by omega) (by omega)).trans hw)⟩
theorem GC_not {lw : Int} {wd : Nat → Int} {a b : Nat} {V : ef} {M M2 : Nat} (H : GC lw wd a b V M) (hV : GB V) (hab : a ≤ b) (hw : wd b = 0 * 64 + 22) (hM : M ≤ M2) : GC lw wd a (b + 1) (ntv V) M2 := by
  intro n wx nm hn hb hx2 hm
  obtain ⟨m1, q1, W1⟩ := H n wx nm hn (by omega) (fun t h1 h2 => hx2 t h1 (by omega)) hm
  exact ⟨m1, by omega, WE_not W1 (hV _ _ _ _ _) (by omega) ((hx2 b (by omega) (by omega)).trans hw)⟩
theorem GC_if {lw : Int} {wd : Nat → Int} {a b c f : Nat} {Z X Y : ef} {M0 M1 M2 M : Nat} (H0 : GC lw wd a b Z M0) (H1 : GC lw wd (b + 1) c X M1) (H2 : GC lw wd (c + 1) f Y M2) (hab : a ≤ b) (hbc : b + 1 ≤ c) (hcf : c + 1 ≤ f) (hw1 : wd b = ((c : Int) + 1) * 64 + 53) (hw2 : wd c = (f : Int) * 64 + 54) (h0 : M0 ≤ M) (h1 : M1 ≤ M) (h2 : M2 ≤ M) : GC lw wd a f (slv Z X Y) M := by
  intro n wx nm hn hb hx2 hm
  obtain ⟨m0, q0, W0⟩ := H0 n wx nm hn (by omega) (fun t h1 h2 => hx2 t h1 (by omega)) hm
  obtain ⟨m1, q1, W1⟩ := H1 n wx nm hn (by omega) (fun t h1 h2 => hx2 t (by omega) (by omega)) hm
  obtain ⟨m2, q2, W2⟩ := H2 n wx nm hn (by omega) (fun t h1 h2 => hx2 t (by omega) (by omega)) hm
  exact ⟨max m0 (max m1 m2), by omega, WE_if W0 W1 W2 (by omega) (by omega) hn (by omega) ((hx2 b (by omega) (by omega)).trans hw1) ((hx2 c (by omega) (by omega)).trans hw2)⟩
theorem GB_op {k : Int} {V W : ef} (hk : (40 ≤ k ∧ k ≤ 45) ∨ k = 20 ∨ k = 21) : GB (op2 k V W) := by
  intro a b c d e
  unfold op2
  have hz : o2 k (V a b c d e) (W a b c d e) = 0 ∨ o2 k (V a b c d e) (W a b c d e) = 1 := by
    obtain ⟨r, hr⟩ : ∃ r, r = o2 k (V a b c d e) (W a b c d e) := ⟨_, rfl⟩
    rw [← hr]
    unfold o2 at hr
    repeat' split at hr
    all_goals omega
  rcases hz with z | z <;> rw [z]
  · exact Or.inl rfl
  · exact Or.inr rfl
theorem GB_not {V : ef} (h : GB V) : GB (ntv V) := by
  intro a b c d e
  have := h a b c d e
  unfold ntv
  omega
theorem tK_big {B : Nat → Int} {n i : Nat} (H : BY B) (hn : n ≤ 300) (hi : 300 ≤ i) : tK B n i = 0 := by
  by_cases c : ∀ j, j < 300 → tK B n j ≠ 0
  · have h1 := tat_ge H hn 300 c
    have h2 := tP_bd (B := B) H hn 300
    have h3 := (tK_0 H hn 300).2 (by omega)
    exact (tK_0m H hn h3 i hi).1
  · have : ∃ j, j < 300 ∧ tK B n j = 0 := by
      refine Classical.byContradiction (fun z => c (fun j hj e => z ⟨j, hj, e⟩))
    obtain ⟨j, h1, h2⟩ := this
    exact (tK_0m H hn h2 i (by omega)).1
theorem tK_lt {B : Nat → Int} {n i : Nat} (H : BY B) (hn : n ≤ 300) (h : tK B n i ≠ 0) : i < 300 := by
  rcases Nat.lt_or_ge i 300 with c | c
  · exact c
  · exact absurd (tK_big H hn c) h
