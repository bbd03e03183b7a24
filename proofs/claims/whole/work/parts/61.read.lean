/-! the class: Reader, seventh part: one clause -/
def sCl (K N : Nat → Int) (v : ef) (i nc : Nat) (ft fr : Option ef) : (Int × Nat) ⊕ (Nat × Option ef × Option ef) :=
  if ¬ (10 ≤ K i ∧ K i ≤ 14) then .inl (1, i) else if (K i = 10 ∧ ft.isSome = true) ∨ (K i = 11 ∧ fr.isSome = true) then .inl (4, i) else if 24 ≤ nc then .inl (6, i) else
  if K i ≤ 11 then (match sP K N (K i) 4000 2 0 v (i + 1) with
    | some (.inr (j, V)) => if K j = 52 then .inr (j + 1, if K i = 10 then some V else ft, if K i = 11 then some V else fr) else .inl (1, j)
    | some (.inl x) => .inl x
    | none => .inl (9, 0))
  else (match sDe K N i with
    | some x => .inl x
    | none => if K (i + dln (K i)) = 52 then .inr (i + dln (K i) + 1, ft, fr) else .inl (1, i + dln (K i)))
def LTQ (q : Option Nat) (m : Nat) : Prop := ∀ a, q = some a → a < m
def RWO (K N : Nat → Int) (rw_ : Nat → Int) (k i : Nat) : Prop := rw_ (5 * k) = K i ∧ (12 ≤ K i → rw_ (5 * k + 1) = N (i + 1)) ∧ (12 ≤ K i → K i ≤ 13 → rw_ (5 * k + 2) = N (i + 3)) ∧ (K i = 12 → rw_ (5 * k + 3) = N (i + 5) ∧ rw_ (5 * k + 4) = N (i + 7))
def ST (h : hc_H) (fl pl : Int) (k : Nat) : Prop := ∃ (wc cl co : Nat) (tl rb : hc_V) (lw : Int) (wd rw_ : Nat → Int), h.2.2 55 = rdo (wc : Int) (cl : Int) (co : Int) tl rb lw (k : Int) 2 fl pl ∧ h.2.2 56 = ar 300 wd ∧ h.2.2 57 = ar 120 rw_ ∧ fl ≠ 0
theorem EOK.fa {h h2 : hc_H} {q : Option Nat} {f : Option ef} {a b c s : Nat} {l : List Nat} (H : EOK h q f a b) (F : FA c s l h h2) (hl : l.all (fun x => Nat.blt x 91) = true) (hq : LTQ q h.1) : EOK h2 q f a b := by
  match q, f, H with
  | none, none, _ => trivial
  | some q, some G, ⟨h1, n, wd, e, r⟩ => exact ⟨h1, n, wd, (F.2.2.2 q (hq q rfl) (nin_big hl h1)).trans e, r⟩
theorem EOK_is {h : hc_H} {q : Option Nat} {f : Option ef} {a b : Nat} (H : EOK h q f a b) : f.isSome = q.isSome := by
  match q, f, H with
  | none, none, _ => rfl
  | some q, some G, _ => rfl
theorem LTQ.le {q : Option Nat} {m m2 : Nat} (H : LTQ q m) (h : m ≤ m2) : LTQ q m2 := fun a e => Nat.lt_of_lt_of_le (H a e) h
def rnk (m : Nat) : Nat := match m with
  | 0 => 2
  | 1 => 1
  | 2 => 4
  | 3 => 3
  | 4 => 1
  | 5 => 7
  | 6 => 6
  | 7 => 5
  | _ => 1
def sOK (i : Nat) (r : sR) : Prop := ∃ q, r = some q ∧ ∀ j w, q = .inr (j, w) → i ≤ j ∧ j ≤ 301
theorem sOK_b {i i2 : Nat} {a : sR} {k : Nat → ef → sR} (H : sOK i a) (hk : ∀ j w, i ≤ j → j ≤ 301 → sOK i2 (k j w)) : sOK i2 (sb a k) := by
  obtain ⟨q, rfl, h⟩ := H
  match q, h with
  | .inl x, _ => exact ⟨.inl x, rfl, fun j w e => by cases e⟩
  | .inr (j, w), h => exact hk j w (h j w rfl).1 (h j w rfl).2
theorem sOK_F {i k : Nat} {f : Int} : sOK i (sF f k) := ⟨.inl (f, k), rfl, fun j w e => by cases e⟩
theorem sOK_O {i j : Nat} {w : ef} (h : i ≤ j) (h2 : j ≤ 301) : sOK i (sO j w) := ⟨.inr (j, w), rfl, fun j2 w2 e => by cases e; exact ⟨h, h2⟩⟩
theorem sOK_le {i i2 : Nat} {a : sR} (H : sOK i a) (h : i2 ≤ i) : sOK i2 a := by
  obtain ⟨q, e, r⟩ := H
  exact ⟨q, e, fun j w z => ⟨Nat.le_trans h (r j w z).1, (r j w z).2⟩⟩
theorem sP_tot {K N : Nat → Int} {law : Int} (hK : ∀ i, 300 ≤ i → K i = 0) : ∀ (f m o : Nat) (v : ef) (i : Nat), m ≤ 9 → i ≤ 301 → 8 * (301 - i) + rnk m < f → sOK i (sP K N law f m o v i) := by
  intro f
  induction f with
  | zero => intro m o v i _ _ h; exact absurd h (by omega)
  | succ f ih =>
    intro m o v i hm hi hf
    have hk : K i ≠ 0 → i < 300 := by
      intro z
      rcases Nat.lt_or_ge i 300 with c | c
      · exact c
      · exact absurd (hK i c) z
    have r0 : rnk 0 = 2 := rfl
    have r1 : rnk 1 = 1 := rfl
    have r2 : rnk 2 = 4 := rfl
    have r3 : rnk 3 = 3 := rfl
    have r4 : rnk 4 = 1 := rfl
    have r5 : rnk 5 = 7 := rfl
    have r6 : rnk 6 = 6 := rfl
    have r7 : rnk 7 = 5 := rfl
    have r8 : rnk 8 = 1 := rfl
    have r9 : rnk 9 = 1 := rfl
    match m, hm with
    | 0, _ =>
      rw [sP_0]
      split
      · split
        · exact sOK_O (by omega) (by omega)
        · exact sOK_F
      · split
        · split
          · exact sOK_F
          · refine sOK_b (ih 2 _ _ _ (by omega) (by omega) (by omega)) (fun j w h1 h2 => ?_)
            split
            · have : j < 300 := by
                rcases Nat.lt_or_ge j 300 with c | c
                · exact c
                · have := hK j c; omega
              exact sOK_O (by omega) (by omega)
            · exact sOK_F
        · split
          · split
            · exact sOK_F
            · exact sOK_b (ih 0 _ _ _ (by omega) (by omega) (by omega)) (fun j w h1 h2 => sOK_O (by omega) (by omega))
          · split
            · split
              · exact sOK_F
              · refine sOK_b (ih 5 _ _ _ (by omega) (by omega) (by omega)) (fun j w h1 h2 => ?_)
                split
                · have : j < 300 := by
                    rcases Nat.lt_or_ge j 300 with c | c
                    · exact c
                    · have := hK j c; omega
                  refine sOK_b (ih 2 _ _ _ (by omega) (by omega) (by omega)) (fun j2 w2 h3 h4 => ?_)
                  split
                  · have : j2 < 300 := by
                      rcases Nat.lt_or_ge j2 300 with c | c
                      · exact c
                      · have := hK j2 c; omega
                    refine sOK_b (ih 2 _ _ _ (by omega) (by omega) (by omega)) (fun j3 w3 h5 h6 => ?_)
                    split
                    · have : j3 < 300 := by
                        rcases Nat.lt_or_ge j3 300 with c | c
                        · exact c
                        · have := hK j3 c; omega
                      exact sOK_O (by omega) (by omega)
                    · exact sOK_F
                  · exact sOK_F
                · exact sOK_F
            · split
              · split
                · exact sOK_O (by omega) (by omega)
                · exact sOK_F
              · exact sOK_F
    | 1, _ =>
      rw [sP_1]
      split
      · exact sOK_b (ih 0 _ _ _ (by omega) (by omega) (by omega)) (fun j w h1 h2 => sOK_le (ih 1 _ _ _ (by omega) (by omega) (by omega)) (by omega))
      · exact sOK_O (by omega) (by omega)
    | 2, _ =>
      rw [sP_2]
      exact sOK_b (ih 3 _ _ _ (by omega) (by omega) (by omega)) (fun j w h1 h2 => sOK_le (ih 4 _ _ _ (by omega) (by omega) (by omega)) (by omega))
    | 3, _ =>
      rw [sP_3]
      exact sOK_b (ih 0 _ _ _ (by omega) (by omega) (by omega)) (fun j w h1 h2 => sOK_le (ih 1 _ _ _ (by omega) (by omega) (by omega)) (by omega))
    | 4, _ =>
      rw [sP_4]
      split
      · exact sOK_b (ih 3 _ _ _ (by omega) (by omega) (by omega)) (fun j w h1 h2 => sOK_le (ih 4 _ _ _ (by omega) (by omega) (by omega)) (by omega))
      · exact sOK_O (by omega) (by omega)
    | 5, _ =>
      rw [sP_5]
      exact sOK_b (ih 6 _ _ _ (by omega) (by omega) (by omega)) (fun j w h1 h2 => sOK_le (ih 8 _ _ _ (by omega) (by omega) (by omega)) (by omega))
    | 6, _ =>
      rw [sP_6]
      exact sOK_b (ih 7 _ _ _ (by omega) (by omega) (by omega)) (fun j w h1 h2 => sOK_le (ih 9 _ _ _ (by omega) (by omega) (by omega)) (by omega))
    | 7, _ =>
      rw [sP_7]
      split
      · split
        · exact sOK_F
        · exact sOK_b (ih 7 _ _ _ (by omega) (by omega) (by omega)) (fun j w h1 h2 => sOK_O (by omega) (by omega))
      · refine sOK_b (ih 2 _ _ _ (by omega) (by omega) (by omega)) (fun j w h1 h2 => ?_)
        split
        · have : j < 300 := by
            rcases Nat.lt_or_ge j 300 with c | c
            · exact c
            · have := hK j c; omega
          exact sOK_b (ih 2 _ _ _ (by omega) (by omega) (by omega)) (fun j2 w2 h3 h4 => sOK_O (by omega) (by omega))
        · exact sOK_F
    | 8, _ =>
      rw [sP_8]
      split
      · exact sOK_b (ih 6 _ _ _ (by omega) (by omega) (by omega)) (fun j w h1 h2 => sOK_le (ih 8 _ _ _ (by omega) (by omega) (by omega)) (by omega))
      · exact sOK_O (by omega) (by omega)
    | 9, _ =>
      rw [sP_9]
      split
      · exact sOK_b (ih 7 _ _ _ (by omega) (by omega) (by omega)) (fun j w h1 h2 => sOK_le (ih 9 _ _ _ (by omega) (by omega) (by omega)) (by omega))
      · exact sOK_O (by omega) (by omega)
    | m + 10, h => exact absurd h (by omega)
