/-! the class: Town, first part -/
def nin : List Nat → Nat → Bool
  | [], _ => true
  | x :: l, a => bif Nat.beq a x then false else nin l a
/-- but for the cells of l, and nothing is made -/
def Fr (l : List Nat) (h h' : hc_H) : Prop := h'.1 = h.1 ∧ h'.2.1 = h.2.1 ∧ ∀ a, nin l a = true → h'.2.2 a = h.2.2 a
theorem nin_app {l1 l2 : List Nat} {a : Nat} : nin (l1 ++ l2) a = (nin l1 a && nin l2 a) := by
  induction l1 with
  | nil => rfl
  | cons x l ih =>
    simp only [List.cons_append, nin]
    cases Nat.beq a x
    · exact ih
    · rfl
theorem Fr.rf {l : List Nat} {h : hc_H} : Fr l h h := ⟨rfl, rfl, fun _ _ => rfl⟩
theorem Fr.wr {l : List Nat} {h h' : hc_H} {a : Nat} {v : hc_E} (H : Fr l h h') (ha : nin l a = false) : Fr l h (hc_wr h' a v) := by
  refine ⟨H.1, H.2.1, fun b hb => ?_⟩
  have : b ≠ a := fun e => by rw [e, ha] at hb; cases hb
  exact hw_ne this (H.2.2 b hb)
theorem Fr.tr {l1 l2 : List Nat} {h h1 h2 : hc_H} (H1 : Fr l1 h h1) (H2 : Fr l2 h1 h2) (hs : ∀ a, nin l2 a = true → nin l1 a = true) : Fr l2 h h2 :=
  ⟨H2.1.trans H1.1, H2.2.1.trans H1.2.1, fun a ha => (H2.2.2 a ha).trans (H1.2.2 a (hs a ha))⟩
theorem nin_big {l : List Nat} {a : Nat} (hl : l.all (fun x => Nat.blt x 91) = true) (ha : 91 ≤ a) : nin l a = true := by
  induction l with
  | nil => rfl
  | cons x l ih =>
    simp only [List.all_cons, Bool.and_eq_true, Nat.blt_eq] at hl
    simp only [nin, hc_bne (show a ≠ x by omega), cond_false]
    exact ih hl.2
theorem nin_sub {l1 l2 : List Nat} (h : l1.all (fun x => !nin l2 x) = true) (a : Nat) (ha : nin l2 a = true) : nin l1 a = true := by
  induction l1 with
  | nil => rfl
  | cons x l ih =>
    simp only [List.all_cons, Bool.and_eq_true] at h
    have : a ≠ x := fun e => by rw [e] at ha; rw [ha] at h; cases h.1
    simp only [nin, hc_bne this, cond_false]
    exact ih h.2
def bnd (nm : Nat → Int) : Prop := ∀ j, -1000000 ≤ nm j ∧ nm j ≤ 1000000
theorem bnd_u {nm : Nat → Int} {k : Nat} {v : Int} (h : bnd nm) (hv : -1000000 ≤ v ∧ v ≤ 1000000) : bnd (hc_u nm k v) := by
  intro j
  unfold hc_u
  split
  · exact hv
  · exact h j
def WS (h : hc_H) : Prop := (∃ ht, h.2.2 24 = wk ht) ∧ (∃ nm, bnd nm ∧ h.2.2 25 = ar 64 nm) ∧ ∃ vs, h.2.2 26 = ar 64 vs
def smk (mk : Nat → Int) : Nat → Int
  | 0 => 0
  | n + 1 => smk mk n + mk n
theorem smk_bd {mk : Nat → Int} : ∀ n : Nat, (∀ j, j < n → 0 ≤ mk j ∧ mk j ≤ 720720) → 0 ≤ smk mk n ∧ smk mk n ≤ 720720 * (n : Int)
  | 0, _ => by simp [smk]
  | n + 1, h => by
    have ih := smk_bd n (fun j hj => h j (by omega))
    have := h n (by omega)
    simp only [smk]
    omega
set_option maxRecDepth 100000 in
theorem l_vend {d : Nat} {h : hc_H} {Q : List hc_V → hc_H → Prop} {t n : Nat} {i' v : Int} {wd vs' : Nat → Int} {l4 l5 : hc_V} (h91 : 91 ≤ t) (hn : n ≤ 300) (hi : 0 ≤ i' ∧ i' ≤ (n : Int)) (e2 : vs' (Int.toNat 0) = v) (Ht : h.2.2 t = ar n wd) (k : ∀ vs : Nat → Int, Q [xI v] (hc_wr (hc_wr h 26 (ar 64 vs)) 24 (wk 0))) : hc_wp (d + 2) mX8_value 9 [xR 24, xR t, xI (n : Int), xI i', l4, l5] [] (hc_wr (hc_wr (hc_wr h 24 (wk 0)) 26 (ar 64 vs')) 24 (wk (0 + 1))) Q := by
  have Ht2 : (hc_wr (hc_wr (hc_wr h 24 (wk 0)) 26 (ar 64 vs')) 24 (wk (0 + 1))).2.2 t = ar n wd := hw_ne (by omega) (hw_ne (by omega) (hw_ne (by omega) Ht))
  refine wp_go rfl rfl ?_
  refine wp_go rfl rfl ?_
  refine e_alen rfl Ht2 rfl (by omega) ?_
  refine e_cge rfl (fun c12 => ?_) (fun c12 => ?_)
  · skip
    refine wp_go rfl rfl ?_
    refine wp_cv rfl rfl rfl rfl rfl rfl rfl ?_
    refine c_pop rfl rfl (by decide) ?_
    refine wp_ret rfl rfl ?_
    simp only [hw_2]
    rw [hw_sw (by decide)]
    simp only [hw_2]
    rw [hw_sw (by decide)]
    have ev : vs' (Int.toNat (0 + 1 - 1)) = v := e2
    rw [ev]
    exact k vs'
  · skip
    refine wp_go rfl rfl ?_
    refine e_iflt rfl (fun c16 => absurd c16 (by omega)) (fun c16 => ?_)
    refine wp_go rfl rfl ?_
    refine wp_go rfl rfl ?_
    refine e_alen rfl Ht2 rfl (by omega) ?_
    refine e_cge rfl (fun c22 => ?_) (fun c22 => absurd c22 (by omega))
    refine wp_go rfl rfl ?_
    refine wp_cv rfl rfl rfl rfl rfl rfl rfl ?_
    refine c_pop rfl rfl (by decide) ?_
    refine wp_ret rfl rfl ?_
    simp only [hw_2]
    rw [hw_sw (by decide)]
    simp only [hw_2]
    rw [hw_sw (by decide)]
    have ev : vs' (Int.toNat (0 + 1 - 1)) = v := e2
    rw [ev]
    exact k vs'
set_option maxRecDepth 100000 in
theorem c_value {d : Nat} {h : hc_H} {Q : List hc_V → hc_H → Prop} {t n m : Nat} {ht v : Int} {wd nm vs : Nat → Int} (Ht : h.2.2 t = ar n wd) (H24 : h.2.2 24 = wk ht) (H25 : h.2.2 25 = ar 64 nm) (H26 : h.2.2 26 = ar 64 vs) (h91 : 91 ≤ t) (hn : n ≤ 300) (HE : WE n wd nm 0 n v m) (hm : m ≤ 64) (k : ∀ vs : Nat → Int, Q [xI v] (hc_wr (hc_wr h 26 (ar 64 vs)) 24 (wk 0))) : hc_wp (d + 2) mX8_value 0 [xR 24, xR t, none, none, none, none] [] h Q := by
  refine wp_go rfl rfl ?_
  refine wp_go rfl rfl ?_
  refine e_put (fs' := [xR 25, xR 26, xI 0]) rfl H24 rfl rfl ?_
  refine wp_go rfl rfl ?_
  refine e_istn (L' := [xR 24, xR t, xI 0, none, none, none]) rfl rfl rfl ?_
  refine wp_go rfl rfl ?_
  refine e_istn (L' := [xR 24, xR t, xI 0, xI 0, none, none]) rfl rfl rfl ?_
  refine HE.2.2.2 d t _ Q 0 0 vs none none (hw_ne (by omega) Ht) rfl H25 H26 h91 hn (by omega) (by omega) (by omega) (fun j hj => by simp at hj) (fun i' vs' l4 l5 hi e1 e2 => ?_)
  exact l_vend h91 hn hi e2 Ht k
set_option maxRecDepth 100000 in
theorem c_textAt {d : Nat} {h : hc_H} {Q : List hc_V → hc_H → Prop} {fk dy rn x wt tc ru sc : Int} {t : Int} {tx : Nat → Option Nat} (H23 : h.2.2 23 = tw fk dy rn x wt tc ru sc) (H29 : h.2.2 29 = .inl (3, 4, .inr tx)) (kt : (0 ≤ t ∧ t < tc ∧ t < 4) → Q [xQ (tx (Int.toNat t))] h) (kf : ¬ (0 ≤ t ∧ t < tc ∧ t < 4) → Q [xN] h) : hc_wp (d + 1) mX7_textAt 0 [xR 23, xI t] [] h Q := by
  refine wp_go rfl rfl ?_
  refine wp_go rfl rfl ?_
  refine wp_cv rfl rfl rfl H23 rfl rfl rfl ?_
  refine c_isText H23 (fun q2 => ?_) (fun q2 => ?_)
  · skip
    refine wp_go rfl rfl ?_
    refine wp_go rfl rfl ?_
    refine e_get rfl H23 rfl rfl ?_
    refine wp_go rfl rfl ?_
    refine e_aald rfl H29 (by omega) ?_
    refine wp_go rfl rfl ?_
    refine wp_ret rfl rfl ?_
    exact kt q2
  · skip
    refine wp_go rfl rfl ?_
    refine wp_go rfl rfl ?_
    refine wp_ret rfl rfl ?_
    exact kf q2
set_option maxRecDepth 100000 in
theorem c_welcome {d : Nat} {h : hc_H} {Q : List hc_V → hc_H → Prop} {fk dy rn x wt tc ru sc : Int} {s : Int} {mk sl : Nat → Int} (H23 : h.2.2 23 = tw fk dy rn x wt tc ru sc) (H27 : h.2.2 27 = ar 8 mk) (H28 : h.2.2 28 = ar 8 sl) (hf : 0 ≤ fk ∧ fk ≤ 8) (kn : fk = 8 → Q [xI (-1)] h) (ky : fk < 8 → Q [xI fk] (hc_wr (hc_wr (hc_wr h 27 (ar 8 (hc_u mk (Int.toNat fk) 0))) 28 (ar 8 (hc_u sl (Int.toNat fk) s))) 23 (tw (fk + 1) dy rn x wt tc ru sc))) : hc_wp d mX7_welcome 0 [xR 23, xI s] [] h Q := by
  refine wp_go rfl rfl ?_
  refine e_get rfl H23 rfl rfl ?_
  refine e_iflt rfl (fun c4 => absurd c4 (by omega)) (fun c4 => ?_)
  refine wp_go rfl rfl ?_
  refine e_get rfl H23 rfl rfl ?_
  refine wp_go rfl rfl ?_
  refine e_clt rfl (fun c13 => ?_) (fun c13 => ?_)
  · skip
    refine wp_go rfl rfl ?_
    refine e_get rfl H23 rfl rfl ?_
    refine wp_go rfl rfl ?_
    refine e_get rfl H23 rfl rfl ?_
    refine wp_go rfl rfl ?_
    refine e_iast rfl H27 (by omega) ?_
    refine wp_go rfl rfl ?_
    refine e_get rfl H23 rfl rfl ?_
    refine wp_go rfl rfl ?_
    refine e_get rfl H23 rfl rfl ?_
    refine wp_go rfl rfl ?_
    refine e_iast rfl H28 (by omega) ?_
    refine wp_go rfl rfl ?_
    refine wp_go rfl rfl ?_
    refine e_get rfl H23 rfl rfl ?_
    refine wp_go rfl rfl ?_
    refine e_iadd rfl (by omega) ?_
    refine e_put (fs' := [xR 24, xI (fk + 1), xR 27, xR 28, xI dy, xI rn, xI x, xI wt, xR 29, xI tc, xI ru, xR 30, xR 32, xR 36, xI sc]) rfl H23 rfl rfl ?_
    refine wp_go rfl rfl ?_
    refine e_get rfl rfl rfl rfl ?_
    refine wp_go rfl rfl ?_
    refine e_isub rfl (by omega) ?_
    refine wp_ret rfl rfl ?_
    rw [show fk + 1 - 1 = fk by omega]
    exact ky (by omega)
  · skip
    refine wp_go rfl rfl ?_
    refine wp_ret rfl rfl ?_
    exact kn (by omega)
set_option maxRecDepth 100000 in
theorem l_marks {d : Nat} {h : hc_H} {Q : List hc_V → hc_H → Prop} {nf : Nat} {dy rn x wt tc ru sc : Int} {mk : Nat → Int} (H23 : h.2.2 23 = tw (nf : Int) dy rn x wt tc ru sc) (H27 : h.2.2 27 = ar 8 mk) (hnf : nf ≤ 8) (hmk : ∀ j, j < 8 → 0 ≤ mk j ∧ mk j ≤ 720720) (k : Q [xI (smk mk nf)] h) : ∀ (n : Nat) (j : Nat) (b i : Int), i = (j : Int) → b = smk mk j → j ≤ nf → nf < j + n → hc_wp d mX7_marksOfFolk 4 [xR 23, xI b, xI i] [] h Q := by
  intro n
  induction n with
  | zero =>
    intro j b i e hb hle hn
    exact absurd hn (by omega)
  | succ n ih =>
    intro j b i e hb hle hn
    refine wp_go rfl rfl ?_
    refine wp_go rfl rfl ?_
    refine e_get rfl H23 rfl rfl ?_
    refine e_cge rfl (fun c9 => ?_) (fun c9 => ?_)
    · skip
      refine wp_go rfl rfl ?_
      refine wp_ret rfl rfl ?_
      rw [hb, show j = nf by omega]
      exact k
    · skip
      refine wp_go rfl rfl ?_
      refine wp_go rfl rfl ?_
      refine e_cge rfl (fun c15 => ?_) (fun c15 => ?_)
      · skip
        refine wp_go rfl rfl ?_
        refine wp_ret rfl rfl ?_
        rw [hb, show j = nf by omega]
        exact k
      · skip
        have hi : Int.toNat i = j := by omega
        have hj := hmk (Int.toNat i) (by omega)
        have hbd := smk_bd (mk := mk) j (fun q hq => hmk q (by omega))
        refine wp_go rfl rfl ?_
        refine wp_go rfl rfl ?_
        refine e_get rfl H23 rfl rfl ?_
        refine wp_go rfl rfl ?_
        refine e_ald rfl H27 rfl (by omega) ?_
        refine e_iadd rfl (by omega) ?_
        refine e_istn (L' := [xR 23, xI (b + (mk (Int.toNat i))), xI i]) rfl rfl rfl ?_
        refine e_inc (L' := [xR 23, xI (b + (mk (Int.toNat i))), xI (i + 1)]) rfl rfl (by omega) rfl ?_
        refine wp_go rfl rfl ?_
        refine ih (j + 1) _ _ ?_ ?_ ?_ ?_
        · omega
        · rw [hi, hb]
          rfl
        · omega
        · omega
set_option maxRecDepth 100000 in
theorem c_marksOfFolk {d : Nat} {h : hc_H} {Q : List hc_V → hc_H → Prop} {nf : Nat} {dy rn x wt tc ru sc : Int} {mk : Nat → Int} (H23 : h.2.2 23 = tw (nf : Int) dy rn x wt tc ru sc) (H27 : h.2.2 27 = ar 8 mk) (hnf : nf ≤ 8) (hmk : ∀ j, j < 8 → 0 ≤ mk j ∧ mk j ≤ 720720) (k : Q [xI (smk mk nf)] h) : hc_wp d mX7_marksOfFolk 0 [xR 23, none, none] [] h Q := by
  refine wp_go rfl rfl ?_
  refine e_istn (L' := [xR 23, xI 0, none]) rfl rfl rfl ?_
  refine wp_go rfl rfl ?_
  refine e_istn (L' := [xR 23, xI 0, xI 0]) rfl rfl rfl ?_
  exact l_marks H23 H27 hnf hmk k (nf + 1) 0 0 0 rfl rfl (by omega) (by omega)
set_option maxRecDepth 100000 in
theorem c_box {d : Nat} {h : hc_H} {Q : List hc_V → hc_H → Prop} {nf : Nat} {dy rn x wt tc ru sc : Int} {mk : Nat → Int} (H23 : h.2.2 23 = tw (nf : Int) dy rn x wt tc ru sc) (H27 : h.2.2 27 = ar 8 mk) (hnf : nf ≤ 8) (hmk : ∀ j, j < 8 → 0 ≤ mk j ∧ mk j ≤ 720720) (k : Q [xI (720720 - smk mk nf)] h) : hc_wp (d + 1) mX7_box 0 [xR 23] [] h Q := by
  refine e_ldc 720720 rfl rfl ?_
  refine wp_go rfl rfl ?_
  refine wp_cv rfl rfl rfl H23 rfl rfl rfl ?_
  refine c_marksOfFolk H23 H27 hnf hmk ?_
  have hsb := smk_bd (mk := mk) nf (fun q hq => hmk q (by omega))
  refine e_isub rfl (by omega) ?_
  refine wp_ret rfl rfl ?_
  exact k
