/-! the class: a stretch of words from a to b leaves the value v on the pile (m places at most) -/
def WE (n : Nat) (wd nm : Nat → Int) (a b : Nat) (v : Int) (m : Nat) : Prop := (-1000000 ≤ v ∧ v ≤ 1000000) ∧ 1 ≤ m ∧ a ≤ b ∧
  ∀ (d t : Nat) (h : hc_H) (Q : List hc_V → hc_H → Prop) (ht i : Int) (vs : Nat → Int) (l4 l5 : hc_V), h.2.2 t = ar n wd → h.2.2 24 = wk ht → h.2.2 25 = ar 64 nm → h.2.2 26 = ar 64 vs → 91 ≤ t → n ≤ 300 → 0 ≤ ht → ht + m ≤ 64 → (0 ≤ i ∧ i ≤ (a : Int)) → (∀ j : Nat, j < Int.toNat ht → -1000000 ≤ vs j ∧ vs j ≤ 1000000) →
  (∀ (i' : Int) (vs' : Nat → Int) (l4 l5 : hc_V), (0 ≤ i' ∧ i' ≤ (b : Int)) → (∀ j : Nat, j < Int.toNat ht → vs' j = vs j) → vs' (Int.toNat ht) = v → hc_wp (d + 2) mX8_value 9 [xR 24, xR t, xI (b : Int), xI i', l4, l5] [] (hc_wr (hc_wr h 26 (ar 64 vs')) 24 (wk (ht + 1))) Q) →
  hc_wp (d + 2) mX8_value 9 [xR 24, xR t, xI (a : Int), xI i, l4, l5] [] h Q
theorem clp_id {v : Int} (h : -1000000 ≤ v ∧ v ≤ 1000000) : clp v = v := by
  unfold clp
  rw [if_neg (by omega), if_neg (by omega)]
theorem hu_s {α : Type} {f : Nat → α} {k : Nat} {x : α} : hc_u f k x k = x := by simp [hc_u]
theorem hu_n {α : Type} {f : Nat → α} {k j : Nat} {x : α} (h : j ≠ k) : hc_u f k x j = f j := by simp [hc_u, h]
theorem WE_num {n : Nat} {wd nm : Nat → Int} {a : Nat} {nb : Int} (ha : a < n) (hw : wd a = nb * 64 + 3) (hnb : 0 ≤ nb ∧ nb ≤ 9999) : WE n wd nm a (a + 1) nb 1 := by
  refine ⟨by omega, by omega, by omega, fun d t h Q ht i vs l4 l5 Ht H24 H25 H26 h91 hn h0 h64 hi hv k => ?_⟩
  refine v_3 Ht H24 H25 H26 h91 hn ha hi hw (by omega) ⟨h0, by omega⟩ ?_
  refine k (i + 1) _ _ _ (by omega) (fun j hj => hu_n (by omega)) ?_
  rw [hu_s, clp_id (by omega)]
theorem WE_name {n : Nat} {wd nm : Nat → Int} {a : Nat} {nb : Int} (ha : a < n) (hw : wd a = nb * 64 + 4) (hnb : 0 ≤ nb ∧ nb ≤ 63) (hv9 : -1000000 ≤ nm (Int.toNat nb) ∧ nm (Int.toNat nb) ≤ 1000000) : WE n wd nm a (a + 1) (nm (Int.toNat nb)) 1 := by
  refine ⟨hv9, by omega, by omega, fun d t h Q ht i vs l4 l5 Ht H24 H25 H26 h91 hn h0 h64 hi hv k => ?_⟩
  refine v_4 Ht H24 H25 H26 h91 hn ha hi hw (by omega) ⟨h0, by omega⟩ hnb.2 ?_
  refine k (i + 1) _ _ _ (by omega) (fun j hj => hu_n (by omega)) ?_
  rw [hu_s, clp_id hv9]
/-- what stands behind a stretch, for the next -/
theorem WE_pile {vs vs' : Nat → Int} {ht v : Int} (h0 : 0 ≤ ht) (hv : ∀ j : Nat, j < Int.toNat ht → -1000000 ≤ vs j ∧ vs j ≤ 1000000) (e1 : ∀ j : Nat, j < Int.toNat ht → vs' j = vs j) (e2 : vs' (Int.toNat ht) = v) (hb : -1000000 ≤ v ∧ v ≤ 1000000) : ∀ j : Nat, j < Int.toNat (ht + 1) → -1000000 ≤ vs' j ∧ vs' j ≤ 1000000 := by
  intro j hj
  by_cases q : j < Int.toNat ht
  · rw [e1 j q]
    exact hv j q
  · have : j = Int.toNat ht := by omega
    rw [this, e2]
    exact hb
theorem WE_one {n : Nat} {wd nm : Nat → Int} {a b : Nat} {v : Int} {m : Nat} (f : Int → Int) (H : WE n wd nm a b v m) (hf : -1000000 ≤ f v ∧ f v ≤ 1000000)
    (st : ∀ (d t : Nat) (h : hc_H) (Q : List hc_V → hc_H → Prop) (ht i : Int) (vs : Nat → Int) (l4 l5 : hc_V), h.2.2 t = ar n wd → h.2.2 24 = wk ht → h.2.2 25 = ar 64 nm → h.2.2 26 = ar 64 vs → 91 ≤ t → n ≤ 300 → (0 ≤ i ∧ i ≤ (b : Int)) → (0 < ht ∧ ht ≤ 64) → (∀ j : Nat, j < Int.toNat ht → -1000000 ≤ vs j ∧ vs j ≤ 1000000) → (∀ l4 l5 : hc_V, hc_wp (d + 2) mX8_value 9 [xR 24, xR t, xI ((b : Int) + 1), xI (i + 1), l4, l5] [] (hc_wr (hc_wr h 26 (ar 64 (hc_u vs (Int.toNat (ht - 1)) (clp (f (vs (Int.toNat (ht - 1)))))))) 24 (wk ht)) Q) → hc_wp (d + 2) mX8_value 9 [xR 24, xR t, xI (b : Int), xI i, l4, l5] [] h Q) : WE n wd nm a (b + 1) (f v) m := by
  obtain ⟨hb, hm, hab, H⟩ := H
  refine ⟨hf, hm, by omega, fun d t h Q ht i vs l4 l5 Ht H24 H25 H26 h91 hn h0 h64 hi hv k => ?_⟩
  refine H d t h Q ht i vs l4 l5 Ht H24 H25 H26 h91 hn h0 h64 hi hv (fun i' vs' l4 l5 hi' e1 e2 => ?_)
  refine st d t _ Q (ht + 1) i' vs' l4 l5 (hw_ne (by omega) (hw_ne (by omega) Ht)) rfl H25 rfl h91 hn hi' ⟨by omega, by omega⟩ (WE_pile h0 hv e1 e2 hb) (fun l4 l5 => ?_)
  rw [show ht + 1 - 1 = ht by omega, e2, clp_id hf, hw_sw (by decide)]
  simp only [hw_2]
  rw [hw_sw (by decide)]
  simp only [hw_2]
  exact k (i' + 1) _ l4 l5 (by omega) (fun j hj => (hu_n (by omega)).trans (e1 j hj)) hu_s
theorem WE_neg {n : Nat} {wd nm : Nat → Int} {a b : Nat} {v : Int} {m : Nat} (H : WE n wd nm a b v m) (hl : b < n) (hw : wd b = 0 * 64 + 5) : WE n wd nm a (b + 1) (-v) m :=
  WE_one (fun x => -x) H (by have := H.1; omega) (fun d t h Q ht i vs l4 l5 Ht H24 H25 H26 h91 hn hi hh hv k => v_5 Ht H24 H25 H26 h91 hn hl hi hw (by omega) hh hv (fun y hy => by rw [hy]; exact k _ _))
theorem WE_not {n : Nat} {wd nm : Nat → Int} {a b : Nat} {v : Int} {m : Nat} (H : WE n wd nm a b v m) (h01 : v = 0 ∨ v = 1) (hl : b < n) (hw : wd b = 0 * 64 + 22) : WE n wd nm a (b + 1) (1 - v) m :=
  WE_one (fun x => 1 - x) H (by omega) (fun d t h Q ht i vs l4 l5 Ht H24 H25 H26 h91 hn hi hh hv k => v_22 Ht H24 H25 H26 h91 hn hl hi hw (by omega) hh hv (fun y hy => by rw [hy]; exact k _ _))
theorem WE_two {n : Nat} {wd nm : Nat → Int} {a b c : Nat} {x y : Int} {m1 m2 : Nat} (f : Int → Int → Int) (H1 : WE n wd nm a b x m1) (H2 : WE n wd nm b c y m2)
    (st : ∀ (d t : Nat) (h : hc_H) (Q : List hc_V → hc_H → Prop) (ht i : Int) (vs : Nat → Int) (l4 l5 : hc_V), h.2.2 t = ar n wd → h.2.2 24 = wk ht → h.2.2 25 = ar 64 nm → h.2.2 26 = ar 64 vs → 91 ≤ t → n ≤ 300 → (0 ≤ i ∧ i ≤ (c : Int)) → (1 < ht ∧ ht ≤ 64) → (∀ j : Nat, j < Int.toNat ht → -1000000 ≤ vs j ∧ vs j ≤ 1000000) → (∀ l4 l5 : hc_V, hc_wp (d + 2) mX8_value 9 [xR 24, xR t, xI ((c : Int) + 1), xI (i + 1), l4, l5] [] (hc_wr (hc_wr h 26 (ar 64 (hc_u vs (Int.toNat (ht - 1 - 1)) (clp (f (vs (Int.toNat (ht - 1 - 1))) (vs (Int.toNat (ht - 1)))))))) 24 (wk (ht - 1))) Q) → hc_wp (d + 2) mX8_value 9 [xR 24, xR t, xI (c : Int), xI i, l4, l5] [] h Q) : WE n wd nm a (c + 1) (clp (f x y)) (max m1 (m2 + 1)) := by
  obtain ⟨hb1, hm1, hab1, H1⟩ := H1
  obtain ⟨hb2, hm2, hab2, H2⟩ := H2
  refine ⟨clp_bd _, by omega, by omega, fun d t h Q ht i vs l4 l5 Ht H24 H25 H26 h91 hn h0 h64 hi hv k => ?_⟩
  refine H1 d t h Q ht i vs l4 l5 Ht H24 H25 H26 h91 hn h0 (by omega) hi hv (fun i' vs' l4 l5 hi' e1 e2 => ?_)
  refine H2 d t _ Q (ht + 1) i' vs' l4 l5 (hw_ne (by omega) (hw_ne (by omega) Ht)) rfl H25 rfl h91 hn (by omega) (by omega) hi' (WE_pile h0 hv e1 e2 hb1) (fun i2 vs2 l4 l5 hi2 f1 f2 => ?_)
  have f1' : vs2 (Int.toNat ht) = x := (f1 _ (by omega)).trans e2
  refine st d t _ Q (ht + 1 + 1) i2 vs2 l4 l5 (hw_ne (by omega) (hw_ne (by omega) (hw_ne (by omega) (hw_ne (by omega) Ht)))) rfl H25 rfl h91 hn hi2 ⟨by omega, by omega⟩ (WE_pile (by omega) (WE_pile h0 hv e1 e2 hb1) f1 f2 hb2) (fun l4 l5 => ?_)
  rw [show ht + 1 + 1 - 1 - 1 = ht by omega, show ht + 1 + 1 - 1 = ht + 1 by omega, f2, f1']
  have eh : ∀ (A B C D E F : hc_E), hc_wr (hc_wr (hc_wr (hc_wr (hc_wr (hc_wr h 26 A) 24 B) 26 C) 24 D) 26 E) 24 F = hc_wr (hc_wr h 26 E) 24 F := by
    intro A B C D E F
    simp only [hc_wr, Prod.mk.injEq, true_and]
    funext j
    simp only [hc_up]
    cases Nat.beq j 24 <;> cases Nat.beq j 26 <;> rfl
  rw [eh]
  exact k (i2 + 1) _ l4 l5 (by omega) (fun j hj => (hu_n (by omega)).trans ((f1 j (by omega)).trans (e1 j hj))) hu_s
theorem WE_46 {n : Nat} {wd nm : Nat → Int} {a b c : Nat} {x y : Int} {m1 m2 : Nat} (H1 : WE n wd nm a b x m1) (H2 : WE n wd nm b c y m2) (hl : c < n) (hw : wd c = 0 * 64 + 46) : WE n wd nm a (c + 1) (clp (rk 46 x y)) (max m1 (m2 + 1)) :=
  WE_two (fun x y => rk 46 x y) H1 H2 (fun d t h Q ht i vs l4 l5 Ht H24 H25 H26 h91 hn hi hh hv k => v_46 Ht H24 H25 H26 h91 hn hl hi hw (by omega) hh hv (fun x y hy hx => by rw [hy, hx]; exact k _ _))
theorem WE_47 {n : Nat} {wd nm : Nat → Int} {a b c : Nat} {x y : Int} {m1 m2 : Nat} (H1 : WE n wd nm a b x m1) (H2 : WE n wd nm b c y m2) (hl : c < n) (hw : wd c = 0 * 64 + 47) : WE n wd nm a (c + 1) (clp (rk 47 x y)) (max m1 (m2 + 1)) :=
  WE_two (fun x y => rk 47 x y) H1 H2 (fun d t h Q ht i vs l4 l5 Ht H24 H25 H26 h91 hn hi hh hv k => v_47 Ht H24 H25 H26 h91 hn hl hi hw (by omega) hh hv (fun x y hy hx => by rw [hy, hx]; exact k _ _))
theorem WE_48 {n : Nat} {wd nm : Nat → Int} {a b c : Nat} {x y : Int} {m1 m2 : Nat} (H1 : WE n wd nm a b x m1) (H2 : WE n wd nm b c y m2) (hl : c < n) (hw : wd c = 0 * 64 + 48) : WE n wd nm a (c + 1) (clp (rk 48 x y)) (max m1 (m2 + 1)) :=
  WE_two (fun x y => rk 48 x y) H1 H2 (fun d t h Q ht i vs l4 l5 Ht H24 H25 H26 h91 hn hi hh hv k => v_48 Ht H24 H25 H26 h91 hn hl hi hw (by omega) hh hv (fun x y hy hx => by rw [hy, hx]; exact k _ _))
theorem WE_49 {n : Nat} {wd nm : Nat → Int} {a b c : Nat} {x y : Int} {m1 m2 : Nat} (H1 : WE n wd nm a b x m1) (H2 : WE n wd nm b c y m2) (hl : c < n) (hw : wd c = 0 * 64 + 49) : WE n wd nm a (c + 1) (clp (rk 49 x y)) (max m1 (m2 + 1)) :=
  WE_two (fun x y => rk 49 x y) H1 H2 (fun d t h Q ht i vs l4 l5 Ht H24 H25 H26 h91 hn hi hh hv k => v_49 Ht H24 H25 H26 h91 hn hl hi hw (by omega) hh hv (fun x y hy hx => by rw [hy, hx]; exact k _ _))
theorem WE_40 {n : Nat} {wd nm : Nat → Int} {a b c : Nat} {x y : Int} {m1 m2 : Nat} (H1 : WE n wd nm a b x m1) (H2 : WE n wd nm b c y m2) (hl : c < n) (hw : wd c = 0 * 64 + 40) : WE n wd nm a (c + 1) (clp (if x < y then 1 else 0)) (max m1 (m2 + 1)) :=
  WE_two (fun x y => if x < y then 1 else 0) H1 H2 (fun d t h Q ht i vs l4 l5 Ht H24 H25 H26 h91 hn hi hh hv k => v_40 Ht H24 H25 H26 h91 hn hl hi hw (by omega) hh hv (fun x y hy hx => by rw [hy, hx]; exact k _ _))
theorem WE_41 {n : Nat} {wd nm : Nat → Int} {a b c : Nat} {x y : Int} {m1 m2 : Nat} (H1 : WE n wd nm a b x m1) (H2 : WE n wd nm b c y m2) (hl : c < n) (hw : wd c = 0 * 64 + 41) : WE n wd nm a (c + 1) (clp (if x ≤ y then 1 else 0)) (max m1 (m2 + 1)) :=
  WE_two (fun x y => if x ≤ y then 1 else 0) H1 H2 (fun d t h Q ht i vs l4 l5 Ht H24 H25 H26 h91 hn hi hh hv k => v_41 Ht H24 H25 H26 h91 hn hl hi hw (by omega) hh hv (fun x y hy hx => by rw [hy, hx]; exact k _ _))
theorem WE_42 {n : Nat} {wd nm : Nat → Int} {a b c : Nat} {x y : Int} {m1 m2 : Nat} (H1 : WE n wd nm a b x m1) (H2 : WE n wd nm b c y m2) (hl : c < n) (hw : wd c = 0 * 64 + 42) : WE n wd nm a (c + 1) (clp (if y < x then 1 else 0)) (max m1 (m2 + 1)) :=
  WE_two (fun x y => if y < x then 1 else 0) H1 H2 (fun d t h Q ht i vs l4 l5 Ht H24 H25 H26 h91 hn hi hh hv k => v_42 Ht H24 H25 H26 h91 hn hl hi hw (by omega) hh hv (fun x y hy hx => by rw [hy, hx]; exact k _ _))
theorem WE_43 {n : Nat} {wd nm : Nat → Int} {a b c : Nat} {x y : Int} {m1 m2 : Nat} (H1 : WE n wd nm a b x m1) (H2 : WE n wd nm b c y m2) (hl : c < n) (hw : wd c = 0 * 64 + 43) : WE n wd nm a (c + 1) (clp (if y ≤ x then 1 else 0)) (max m1 (m2 + 1)) :=
  WE_two (fun x y => if y ≤ x then 1 else 0) H1 H2 (fun d t h Q ht i vs l4 l5 Ht H24 H25 H26 h91 hn hi hh hv k => v_43 Ht H24 H25 H26 h91 hn hl hi hw (by omega) hh hv (fun x y hy hx => by rw [hy, hx]; exact k _ _))
theorem WE_44 {n : Nat} {wd nm : Nat → Int} {a b c : Nat} {x y : Int} {m1 m2 : Nat} (H1 : WE n wd nm a b x m1) (H2 : WE n wd nm b c y m2) (hl : c < n) (hw : wd c = 0 * 64 + 44) : WE n wd nm a (c + 1) (clp (if x = y then 1 else 0)) (max m1 (m2 + 1)) :=
  WE_two (fun x y => if x = y then 1 else 0) H1 H2 (fun d t h Q ht i vs l4 l5 Ht H24 H25 H26 h91 hn hi hh hv k => v_44 Ht H24 H25 H26 h91 hn hl hi hw (by omega) hh hv (fun x y hy hx => by rw [hy, hx]; exact k _ _))
theorem WE_45 {n : Nat} {wd nm : Nat → Int} {a b c : Nat} {x y : Int} {m1 m2 : Nat} (H1 : WE n wd nm a b x m1) (H2 : WE n wd nm b c y m2) (hl : c < n) (hw : wd c = 0 * 64 + 45) : WE n wd nm a (c + 1) (clp (if ¬ x = y then 1 else 0)) (max m1 (m2 + 1)) :=
  WE_two (fun x y => if ¬ x = y then 1 else 0) H1 H2 (fun d t h Q ht i vs l4 l5 Ht H24 H25 H26 h91 hn hi hh hv k => v_45 Ht H24 H25 H26 h91 hn hl hi hw (by omega) hh hv (fun x y hy hx => by rw [hy, hx]; exact k _ _))
theorem WE_20 {n : Nat} {wd nm : Nat → Int} {a b c : Nat} {x y : Int} {m1 m2 : Nat} (H1 : WE n wd nm a b x m1) (H2 : WE n wd nm b c y m2) (hl : c < n) (hw : wd c = 0 * 64 + 20) : WE n wd nm a (c + 1) (clp (if 0 < x + y then 1 else 0)) (max m1 (m2 + 1)) :=
  WE_two (fun x y => if 0 < x + y then 1 else 0) H1 H2 (fun d t h Q ht i vs l4 l5 Ht H24 H25 H26 h91 hn hi hh hv k => v_20 Ht H24 H25 H26 h91 hn hl hi hw (by omega) hh hv (fun x y hy hx => by rw [hy, hx]; exact k _ _))
theorem WE_21 {n : Nat} {wd nm : Nat → Int} {a b c : Nat} {x y : Int} {m1 m2 : Nat} (H1 : WE n wd nm a b x m1) (H2 : WE n wd nm b c y m2) (hl : c < n) (hw : wd c = 0 * 64 + 21) : WE n wd nm a (c + 1) (clp (if 1 < x + y then 1 else 0)) (max m1 (m2 + 1)) :=
  WE_two (fun x y => if 1 < x + y then 1 else 0) H1 H2 (fun d t h Q ht i vs l4 l5 Ht H24 H25 H26 h91 hn hi hh hv k => v_21 Ht H24 H25 H26 h91 hn hl hi hw (by omega) hh hv (fun x y hy hx => by rw [hy, hx]; exact k _ _))
theorem WE_if {n : Nat} {wd nm : Nat → Int} {a b c f : Nat} {q x y : Int} {m0 m1 m2 : Nat} (H0 : WE n wd nm a b q m0) (H1 : WE n wd nm (b + 1) c x m1) (H2 : WE n wd nm (c + 1) f y m2) (hl1 : b < n) (hl2 : c < n) (hn3 : n ≤ 300) (hf : f ≤ n) (hw1 : wd b = ((c : Int) + 1) * 64 + 53) (hw2 : wd c = (f : Int) * 64 + 54) : WE n wd nm a f (if q = 0 then y else x) (max m0 (max m1 m2)) := by
  obtain ⟨hb0, hm0, hab0, H0⟩ := H0
  obtain ⟨hb1, hm1, hab1, H1⟩ := H1
  obtain ⟨hb2, hm2, hab2, H2⟩ := H2
  refine ⟨by split <;> assumption, by omega, by omega, fun d t h Q ht i vs l4 l5 Ht H24 H25 H26 h91 hn h0 h64 hi hv k => ?_⟩
  refine H0 d t h Q ht i vs l4 l5 Ht H24 H25 H26 h91 hn h0 (by omega) hi hv (fun i' vs' l4 l5 hi' e1 e2 => ?_)
  have hv' := fun (j : Nat) (hj : j < Int.toNat ht) => (e1 j hj) ▸ hv j hj
  refine v_53 (ht := ht + 1) (vs := vs') (nb := (c : Int) + 1) (hw_ne (by omega) (hw_ne (by omega) Ht)) rfl H25 rfl h91 hn hl1 hi' hw1 (by omega) ⟨by omega, by omega⟩ (fun z => ?_) (fun z => ?_)
  · rw [show ht + 1 - 1 = ht by omega, e2] at z
    rw [if_pos z] at k
    simp only [hw_2, show ht + 1 - 1 = ht by omega]
    refine H2 d t _ Q ht (i' + 1) vs' _ _ (hw_ne (by omega) (hw_ne (by omega) Ht)) rfl H25 rfl h91 hn h0 (by omega) ⟨by omega, by omega⟩ hv' (fun i2 vs2 l4 l5 hi2 f1 f2 => ?_)
    rw [hw_sw (show (24 : Nat) ≠ 26 by decide)]
    simp only [hw_2]
    exact k i2 vs2 l4 l5 hi2 (fun j hj => (f1 j hj).trans (e1 j hj)) f2
  · rw [show ht + 1 - 1 = ht by omega, e2] at z
    rw [if_neg z] at k
    simp only [hw_2, show ht + 1 - 1 = ht by omega]
    refine H1 d t _ Q ht (i' + 1) vs' _ _ (hw_ne (by omega) (hw_ne (by omega) Ht)) rfl H25 rfl h91 hn h0 (by omega) ⟨by omega, by omega⟩ hv' (fun i2 vs2 l4 l5 hi2 f1 f2 => ?_)
    rw [hw_sw (show (24 : Nat) ≠ 26 by decide)]
    simp only [hw_2]
    refine v_54 (ht := ht + 1) (vs := vs2) (nb := (f : Int)) (hw_ne (by omega) (hw_ne (by omega) Ht)) rfl H25 rfl h91 hn hl2 hi2 hw2 (by omega) ?_
    exact k (i2 + 1) vs2 _ _ ⟨by omega, by omega⟩ (fun j hj => (f1 j hj).trans (e1 j hj)) f2
