/-! the class: debts, steps, rows of a text -/
theorem hw_ne {h : hc_H} {a b : Nat} {v E : hc_E} (hn : b ≠ a) (hb : h.2.2 b = E) : (hc_wr h a v).2.2 b = E := by
  simp only [hc_wr, hc_up, hc_bne hn, cond_false]
  exact hb
theorem hw_2 {h : hc_H} {a : Nat} {v w : hc_E} : hc_wr (hc_wr h a v) a w = hc_wr h a w := by
  simp only [hc_wr, Prod.mk.injEq, true_and]
  funext j
  simp only [hc_up]
  cases Nat.beq j a <;> rfl
theorem hw_id {h : hc_H} {a : Nat} {v : hc_E} (e : h.2.2 a = v) : hc_wr h a v = h := by
  obtain ⟨n, m, f⟩ := h
  simp only [hc_wr, Prod.mk.injEq, true_and]
  funext j
  simp only [hc_up]
  cases q : Nat.beq j a with
  | false => rfl
  | true => rw [Nat.eq_of_beq_eq_true q]; exact e.symm
theorem hw_sw {h : hc_H} {a b : Nat} {v w : hc_E} (hn : a ≠ b) : hc_wr (hc_wr h a v) b w = hc_wr (hc_wr h b w) a v := by
  simp only [hc_wr, Prod.mk.injEq, true_and]
  funext j
  simp only [hc_up]
  cases p : Nat.beq j a with
  | false => rfl
  | true =>
    have p := Nat.eq_of_beq_eq_true p
    subst p
    rw [hc_bne hn]
    rfl
abbrev ar (n : Nat) (f : Nat → Int) : hc_E := .inl (0, n, .inl f)
def bal (dt ow am : Nat → Int) (who : Int) : Nat → Int
  | 0 => 0
  | n + 1 => bal dt ow am who n + (if ow n = who then am n else 0) - (if dt n = who then am n else 0)
theorem bal_bd {dt ow am : Nat → Int} {who : Int} : ∀ n : Nat, (∀ j, j < n → 0 ≤ am j ∧ am j ≤ 720720) → -(720720 * (n : Int)) ≤ bal dt ow am who n ∧ bal dt ow am who n ≤ 720720 * (n : Int)
  | 0, _ => by simp [bal]
  | n + 1, h => by
    have ih := bal_bd (dt := dt) (ow := ow) (who := who) n (fun j hj => h j (by omega))
    have := h n (by omega)
    simp only [bal]
    split <;> split <;> omega
set_option maxRecDepth 100000 in
theorem l_balance {d : Nat} {h : hc_H} {Q : List hc_V → hc_H → Prop} {who : Int} {cn : Nat} {dt ow am : Nat → Int} (H32 : h.2.2 32 = .inr (0, [xR 33, xR 34, xR 35, xI (cn : Int)])) (H33 : h.2.2 33 = ar 20 dt) (H34 : h.2.2 34 = ar 20 ow) (H35 : h.2.2 35 = ar 20 am) (hcn : cn ≤ 20) (ham : ∀ j, j < cn → 0 ≤ am j ∧ am j ≤ 720720) (k : Q [xI (bal dt ow am who cn)] h) : ∀ (n : Nat) (j : Nat) (b i : Int), i = (j : Int) → b = bal dt ow am who j → j ≤ cn → cn < j + n → hc_wp d mX0_balance 4 [xR 32, xI who, xI b, xI i] [] h Q := by
  intro n
  induction n with
  | zero =>
    intro j b i e hb hle hn
    exact absurd hn (by omega)
  | succ n ih =>
    intro j b i e hb hle hn
    refine wp_go rfl rfl ?_
    refine wp_go rfl rfl ?_
    refine e_get rfl H32 rfl rfl ?_
    refine e_cge rfl (fun c9 => ?_) (fun c9 => ?_)
    · skip
      refine wp_go rfl rfl ?_
      refine wp_ret rfl rfl ?_
      rw [hb, show j = cn by omega]
      exact k
    · skip
      refine wp_go rfl rfl ?_
      refine wp_go rfl rfl ?_
      refine e_cge rfl (fun c15 => ?_) (fun c15 => ?_)
      · skip
        refine wp_go rfl rfl ?_
        refine wp_ret rfl rfl ?_
        rw [hb, show j = cn by omega]
        exact k
      · skip
        have hi : Int.toNat i = j := by omega
        have hj := ham (Int.toNat i) (by omega)
        have hbd := bal_bd (dt := dt) (ow := ow) (am := am) (who := who) j (fun q hq => ham q (by omega))
        refine wp_go rfl rfl ?_
        refine e_get rfl H32 rfl rfl ?_
        refine wp_go rfl rfl ?_
        refine e_ald rfl H34 rfl (by omega) ?_
        refine wp_go rfl rfl ?_
        refine e_cne rfl (fun c25 => ?_) (fun c25 => ?_)
        · skip
          refine wp_go rfl rfl ?_
          refine e_get rfl H32 rfl rfl ?_
          refine wp_go rfl rfl ?_
          refine e_ald rfl H33 rfl (by omega) ?_
          refine wp_go rfl rfl ?_
          refine e_cne rfl (fun c44 => ?_) (fun c44 => ?_)
          · skip
            refine e_inc (L' := [xR 32, xI who, xI b, xI (i + 1)]) rfl rfl (by omega) rfl ?_
            refine wp_go rfl rfl ?_
            refine ih (j + 1) _ _ ?_ ?_ ?_ ?_
            · omega
            · rw [hi] at c25 c44
              try rw [hi]
              simp only [bal, hb]
              simp [c25, c44]
            · omega
            · omega
          · skip
            refine wp_go rfl rfl ?_
            refine wp_go rfl rfl ?_
            refine e_get rfl H32 rfl rfl ?_
            refine wp_go rfl rfl ?_
            refine e_ald rfl H35 rfl (by omega) ?_
            refine e_isub rfl (by omega) ?_
            refine e_istn (L' := [xR 32, xI who, xI (b - (am (Int.toNat i))), xI i]) rfl rfl rfl ?_
            refine e_inc (L' := [xR 32, xI who, xI (b - (am (Int.toNat i))), xI (i + 1)]) rfl rfl (by omega) rfl ?_
            refine wp_go rfl rfl ?_
            refine ih (j + 1) _ _ ?_ ?_ ?_ ?_
            · omega
            · rw [hi] at c25 c44
              try rw [hi]
              simp only [bal, hb]
              simp [c25, c44]
            · omega
            · omega
        · skip
          refine wp_go rfl rfl ?_
          refine wp_go rfl rfl ?_
          refine e_get rfl H32 rfl rfl ?_
          refine wp_go rfl rfl ?_
          refine e_ald rfl H35 rfl (by omega) ?_
          refine e_iadd rfl (by omega) ?_
          refine e_istn (L' := [xR 32, xI who, xI (b + (am (Int.toNat i))), xI i]) rfl rfl rfl ?_
          refine wp_go rfl rfl ?_
          refine e_get rfl H32 rfl rfl ?_
          refine wp_go rfl rfl ?_
          refine e_ald rfl H33 rfl (by omega) ?_
          refine wp_go rfl rfl ?_
          refine e_cne rfl (fun c44 => ?_) (fun c44 => ?_)
          · skip
            refine e_inc (L' := [xR 32, xI who, xI (b + (am (Int.toNat i))), xI (i + 1)]) rfl rfl (by omega) rfl ?_
            refine wp_go rfl rfl ?_
            refine ih (j + 1) _ _ ?_ ?_ ?_ ?_
            · omega
            · rw [hi] at c25 c44
              try rw [hi]
              simp only [bal, hb]
              simp [c25, c44]
            · omega
            · omega
          · skip
            refine wp_go rfl rfl ?_
            refine wp_go rfl rfl ?_
            refine e_get rfl H32 rfl rfl ?_
            refine wp_go rfl rfl ?_
            refine e_ald rfl H35 rfl (by omega) ?_
            refine e_isub rfl (by omega) ?_
            refine e_istn (L' := [xR 32, xI who, xI ((b + (am (Int.toNat i))) - (am (Int.toNat i))), xI i]) rfl rfl rfl ?_
            refine e_inc (L' := [xR 32, xI who, xI ((b + (am (Int.toNat i))) - (am (Int.toNat i))), xI (i + 1)]) rfl rfl (by omega) rfl ?_
            refine wp_go rfl rfl ?_
            refine ih (j + 1) _ _ ?_ ?_ ?_ ?_
            · omega
            · rw [hi] at c25 c44
              try rw [hi]
              simp only [bal, hb]
              simp [c25, c44]
            · omega
            · omega
set_option maxRecDepth 100000 in
theorem c_balance {d : Nat} {h : hc_H} {Q : List hc_V → hc_H → Prop} {who : Int} {cn : Nat} {dt ow am : Nat → Int} (H32 : h.2.2 32 = .inr (0, [xR 33, xR 34, xR 35, xI (cn : Int)])) (H33 : h.2.2 33 = ar 20 dt) (H34 : h.2.2 34 = ar 20 ow) (H35 : h.2.2 35 = ar 20 am) (hcn : cn ≤ 20) (ham : ∀ j, j < cn → 0 ≤ am j ∧ am j ≤ 720720) (k : Q [xI (bal dt ow am who cn)] h) : hc_wp d mX0_balance 0 [xR 32, xI who, none, none] [] h Q := by
  refine wp_go rfl rfl ?_
  refine e_istn (L' := [xR 32, xI who, xI 0, none]) rfl rfl rfl ?_
  refine wp_go rfl rfl ?_
  refine e_istn (L' := [xR 32, xI who, xI 0, xI 0]) rfl rfl rfl ?_
  exact l_balance H32 H33 H34 H35 hcn ham k (cn + 1) 0 0 0 rfl rfl (by omega) (by omega)
set_option maxRecDepth 100000 in
theorem c_forget {d : Nat} {h : hc_H} {Q : List hc_V → hc_H → Prop} {cn : Int} (H32 : h.2.2 32 = .inr (0, [xR 33, xR 34, xR 35, xI cn])) (k : Q [xI 0] (hc_wr h 32 (.inr (0, [xR 33, xR 34, xR 35, xI 0])))) : hc_wp d mX0_forget 0 [xR 32] [] h Q := by
  refine wp_go rfl rfl ?_
  refine wp_go rfl rfl ?_
  refine e_put (fs' := [xR 33, xR 34, xR 35, xI 0]) rfl H32 rfl rfl ?_
  refine wp_go rfl rfl ?_
  refine e_get rfl rfl rfl rfl ?_
  refine wp_ret rfl rfl ?_
  exact k
set_option maxRecDepth 100000 in
theorem c_dadd {d : Nat} {h : hc_H} {Q : List hc_V → hc_H → Prop} {cn p q m : Int} {dt ow am : Nat → Int} (H32 : h.2.2 32 = .inr (0, [xR 33, xR 34, xR 35, xI cn])) (H33 : h.2.2 33 = ar 20 dt) (H34 : h.2.2 34 = ar 20 ow) (H35 : h.2.2 35 = ar 20 am) (hcn : 0 ≤ cn ∧ cn ≤ 20) (kn : cn = 20 → Q [xI (-1)] h) (ky : cn < 20 → Q [xI (cn + 1)] (hc_wr (hc_wr (hc_wr (hc_wr h 33 (ar 20 (hc_u dt (Int.toNat cn) p))) 34 (ar 20 (hc_u ow (Int.toNat cn) q))) 35 (ar 20 (hc_u am (Int.toNat cn) m))) 32 (.inr (0, [xR 33, xR 34, xR 35, xI (cn + 1)])))) : hc_wp d mX0_add 0 [xR 32, xI p, xI q, xI m] [] h Q := by
  refine wp_go rfl rfl ?_
  refine e_get rfl H32 rfl rfl ?_
  refine e_iflt rfl (fun c4 => absurd c4 (by omega)) (fun c4 => ?_)
  refine wp_go rfl rfl ?_
  refine e_get rfl H32 rfl rfl ?_
  refine wp_go rfl rfl ?_
  refine e_clt rfl (fun c13 => ?_) (fun c13 => ?_)
  · skip
    refine wp_go rfl rfl ?_
    refine e_get rfl H32 rfl rfl ?_
    refine wp_go rfl rfl ?_
    refine e_get rfl H32 rfl rfl ?_
    refine wp_go rfl rfl ?_
    refine e_iast rfl H33 (by omega) ?_
    refine wp_go rfl rfl ?_
    refine e_get rfl H32 rfl rfl ?_
    refine wp_go rfl rfl ?_
    refine e_get rfl H32 rfl rfl ?_
    refine wp_go rfl rfl ?_
    refine e_iast rfl H34 (by omega) ?_
    refine wp_go rfl rfl ?_
    refine e_get rfl H32 rfl rfl ?_
    refine wp_go rfl rfl ?_
    refine e_get rfl H32 rfl rfl ?_
    refine wp_go rfl rfl ?_
    refine e_iast rfl H35 (by omega) ?_
    refine wp_go rfl rfl ?_
    refine wp_go rfl rfl ?_
    refine e_get rfl H32 rfl rfl ?_
    refine wp_go rfl rfl ?_
    refine e_iadd rfl (by omega) ?_
    refine e_put (fs' := [xR 33, xR 34, xR 35, xI (cn + 1)]) rfl H32 rfl rfl ?_
    refine wp_go rfl rfl ?_
    refine e_get rfl rfl rfl rfl ?_
    refine wp_ret rfl rfl ?_
    exact ky (by omega)
  · skip
    refine wp_go rfl rfl ?_
    refine wp_ret rfl rfl ?_
    exact kn (by omega)
def kp_rows (mk rw : Nat → Int) (r dy x wt : Int) : Nat → Int := hc_u (hc_u (hc_u (hc_cpy mk rw (Int.toNat 0) (Int.toNat r) (Int.toNat 8)) (Int.toNat (r + 8)) dy) (Int.toNat (r + 8 + 1)) x) (Int.toNat (r + 8 + 2)) wt
set_option maxRecDepth 100000 in
theorem c_keep {d : Nat} {h : hc_H} {Q : List hc_V → hc_H → Prop} {fk dy rn x wt tc ru sc : Int} {fs ct : Int} {mk rw : Nat → Int} (H23 : h.2.2 23 = tw fk dy rn x wt tc ru sc) (H27 : h.2.2 27 = ar 8 mk) (H30 : h.2.2 30 = .inr (4, [xR 31, xI fs, xI ct])) (H31 : h.2.2 31 = ar 330 rw) (hf : 0 ≤ fs ∧ fs < 30 ∧ 0 ≤ ct ∧ ct ≤ 30) (ky : ∀ r : Int, r = ((fs + ct) % 30) * 11 → ct < 30 → Q [] (hc_wr (hc_wr h 30 (.inr (4, [xR 31, xI fs, xI (ct + 1)]))) 31 (ar 330 (kp_rows mk rw r dy x wt)))) (kn : ∀ r : Int, r = ((fs + ct) % 30) * 11 → ct = 30 → Q [] (hc_wr (hc_wr h 30 (.inr (4, [xR 31, xI (Int.tmod (fs + 1) 30), xI ct]))) 31 (ar 330 (kp_rows mk rw r dy x wt)))) : hc_wp (d + 1) mX4_keep 0 [xR 30, xR 23, none] [] h Q := by
  refine wp_go rfl rfl ?_
  refine e_get rfl H30 rfl rfl ?_
  refine wp_go rfl rfl ?_
  refine e_get rfl H30 rfl rfl ?_
  refine e_iadd rfl (by omega) ?_
  refine wp_go rfl rfl ?_
  refine e_irem rfl (by decide) ?_
  refine wp_go rfl rfl ?_
  refine e_imul rfl (by rw [Int.tmod_eq_emod_of_nonneg (by omega)]; omega) ?_
  refine e_istn (L' := [xR 30, xR 23, xI ((Int.tmod (fs + ct) 30) * 11)]) rfl rfl rfl ?_
  obtain ⟨r, hr⟩ : ∃ z : Int, z = ((Int.tmod (fs + ct) 30) * 11) := ⟨_, rfl⟩
  rw [← hr]
  have hr2 : r = ((fs + ct) % 30) * 11 := by rw [hr, Int.tmod_eq_emod_of_nonneg (by omega)]
  refine wp_go rfl rfl ?_
  refine e_get rfl H30 rfl rfl ?_
  refine wp_go rfl rfl ?_
  refine e_cge rfl (fun c22 => ?_) (fun c22 => ?_)
  · skip
    refine wp_go rfl rfl ?_
    refine wp_go rfl rfl ?_
    refine e_get rfl H30 rfl rfl ?_
    refine wp_go rfl rfl ?_
    refine e_iadd rfl (by omega) ?_
    refine wp_go rfl rfl ?_
    refine e_irem rfl (by decide) ?_
    refine e_put (fs' := [xR 31, xI (Int.tmod (fs + 1) 30), xI ct]) rfl H30 rfl rfl ?_
    refine wp_go rfl rfl ?_
    refine e_iflt rfl (fun c52 => absurd c52 (by omega)) (fun c52 => ?_)
    refine wp_go rfl rfl ?_
    refine wp_go rfl rfl ?_
    refine e_iadd rfl (by omega) ?_
    refine wp_go rfl rfl ?_
    refine e_get rfl rfl rfl rfl ?_
    refine e_alen rfl H31 rfl (by decide) ?_
    refine e_cle rfl (fun c64 => ?_) (fun c64 => absurd c64 (by omega))
    refine wp_go rfl rfl ?_
    refine e_get rfl H23 rfl rfl ?_
    refine wp_go rfl rfl ?_
    refine wp_go rfl rfl ?_
    refine e_get rfl rfl rfl rfl ?_
    refine wp_go rfl rfl ?_
    refine wp_go rfl rfl ?_
    refine e_copy rfl rfl H27 H31 (by omega) ?_
    refine wp_go rfl rfl ?_
    refine e_get rfl rfl rfl rfl ?_
    refine wp_go rfl rfl ?_
    refine wp_go rfl rfl ?_
    refine e_iadd rfl (by omega) ?_
    refine wp_go rfl rfl ?_
    refine e_get rfl H23 rfl rfl ?_
    refine e_iast rfl rfl (by omega) ?_
    refine wp_go rfl rfl ?_
    refine e_get rfl rfl rfl rfl ?_
    refine wp_go rfl rfl ?_
    refine wp_go rfl rfl ?_
    refine e_iadd rfl (by omega) ?_
    refine wp_go rfl rfl ?_
    refine e_iadd rfl (by omega) ?_
    refine wp_go rfl rfl ?_
    refine e_get rfl H23 rfl rfl ?_
    refine e_iast rfl rfl (by omega) ?_
    refine wp_go rfl rfl ?_
    refine e_get rfl rfl rfl rfl ?_
    refine wp_go rfl rfl ?_
    refine wp_go rfl rfl ?_
    refine e_iadd rfl (by omega) ?_
    refine wp_go rfl rfl ?_
    refine e_iadd rfl (by omega) ?_
    refine wp_go rfl rfl ?_
    refine e_get rfl H23 rfl rfl ?_
    refine e_iast rfl rfl (by omega) ?_
    refine wp_ret rfl rfl ?_
    simp only [hw_2]
    exact kn r hr2 (by omega)
  · skip
    refine wp_go rfl rfl ?_
    refine wp_go rfl rfl ?_
    refine e_get rfl H30 rfl rfl ?_
    refine wp_go rfl rfl ?_
    refine e_iadd rfl (by omega) ?_
    refine e_put (fs' := [xR 31, xI fs, xI (ct + 1)]) rfl H30 rfl rfl ?_
    refine wp_go rfl rfl ?_
    refine wp_go rfl rfl ?_
    refine e_iflt rfl (fun c52 => absurd c52 (by omega)) (fun c52 => ?_)
    refine wp_go rfl rfl ?_
    refine wp_go rfl rfl ?_
    refine e_iadd rfl (by omega) ?_
    refine wp_go rfl rfl ?_
    refine e_get rfl rfl rfl rfl ?_
    refine e_alen rfl H31 rfl (by decide) ?_
    refine e_cle rfl (fun c64 => ?_) (fun c64 => absurd c64 (by omega))
    refine wp_go rfl rfl ?_
    refine e_get rfl H23 rfl rfl ?_
    refine wp_go rfl rfl ?_
    refine wp_go rfl rfl ?_
    refine e_get rfl rfl rfl rfl ?_
    refine wp_go rfl rfl ?_
    refine wp_go rfl rfl ?_
    refine e_copy rfl rfl H27 H31 (by omega) ?_
    refine wp_go rfl rfl ?_
    refine e_get rfl rfl rfl rfl ?_
    refine wp_go rfl rfl ?_
    refine wp_go rfl rfl ?_
    refine e_iadd rfl (by omega) ?_
    refine wp_go rfl rfl ?_
    refine e_get rfl H23 rfl rfl ?_
    refine e_iast rfl rfl (by omega) ?_
    refine wp_go rfl rfl ?_
    refine e_get rfl rfl rfl rfl ?_
    refine wp_go rfl rfl ?_
    refine wp_go rfl rfl ?_
    refine e_iadd rfl (by omega) ?_
    refine wp_go rfl rfl ?_
    refine e_iadd rfl (by omega) ?_
    refine wp_go rfl rfl ?_
    refine e_get rfl H23 rfl rfl ?_
    refine e_iast rfl rfl (by omega) ?_
    refine wp_go rfl rfl ?_
    refine e_get rfl rfl rfl rfl ?_
    refine wp_go rfl rfl ?_
    refine wp_go rfl rfl ?_
    refine e_iadd rfl (by omega) ?_
    refine wp_go rfl rfl ?_
    refine e_iadd rfl (by omega) ?_
    refine wp_go rfl rfl ?_
    refine e_get rfl H23 rfl rfl ?_
    refine e_iast rfl rfl (by omega) ?_
    refine wp_ret rfl rfl ?_
    simp only [hw_2]
    exact ky r hr2 (by omega)
set_option maxRecDepth 100000 in
theorem c_takeBack {d : Nat} {h : hc_H} {Q : List hc_V → hc_H → Prop} {fk dy rn x wt tc ru sc : Int} {fs ct : Int} {mk rw : Nat → Int} (H23 : h.2.2 23 = tw fk dy rn x wt tc ru sc) (H27 : h.2.2 27 = ar 8 mk) (H30 : h.2.2 30 = .inr (4, [xR 31, xI fs, xI ct])) (H31 : h.2.2 31 = ar 330 rw) (hf : 0 ≤ fs ∧ fs < 30 ∧ 0 ≤ ct ∧ ct ≤ 30) (kn : ct = 0 → Q [xI 0] h) (ky : ∀ r : Int, r = ((fs + (ct - 1)) % 30) * 11 → 0 < ct → Q [xI 1] (hc_wr (hc_wr (hc_wr h 30 (.inr (4, [xR 31, xI fs, xI (ct - 1)]))) 27 (ar 8 (hc_cpy rw mk (Int.toNat r) (Int.toNat 0) (Int.toNat 8)))) 23 (tw fk (rw (Int.toNat (r + 8))) rn (rw (Int.toNat (r + 8 + 1))) (rw (Int.toNat (r + 8 + 2))) tc ru sc))) : hc_wp (d + 1) mX4_takeBack 0 [xR 30, xR 23, none] [] h Q := by
  refine wp_go rfl rfl ?_
  refine e_get rfl H30 rfl rfl ?_
  refine wp_go rfl rfl ?_
  refine e_cge rfl (fun c5 => ?_) (fun c5 => ?_)
  · skip
    refine wp_go rfl rfl ?_
    refine wp_go rfl rfl ?_
    refine e_get rfl H30 rfl rfl ?_
    refine wp_go rfl rfl ?_
    refine e_isub rfl (by omega) ?_
    refine e_put (fs' := [xR 31, xI fs, xI (ct - 1)]) rfl H30 rfl rfl ?_
    refine wp_go rfl rfl ?_
    refine e_get rfl rfl rfl rfl ?_
    refine wp_go rfl rfl ?_
    refine e_get rfl rfl rfl rfl ?_
    refine e_iadd rfl (by omega) ?_
    refine wp_go rfl rfl ?_
    refine e_irem rfl (by decide) ?_
    refine wp_go rfl rfl ?_
    refine e_imul rfl (by rw [Int.tmod_eq_emod_of_nonneg (by omega)]; omega) ?_
    refine e_istn (L' := [xR 30, xR 23, xI ((Int.tmod (fs + (ct - 1)) 30) * 11)]) rfl rfl rfl ?_
    obtain ⟨r, hr⟩ : ∃ z : Int, z = ((Int.tmod (fs + (ct - 1)) 30) * 11) := ⟨_, rfl⟩
    rw [← hr]
    have hr2 : r = ((fs + (ct - 1)) % 30) * 11 := by rw [hr, Int.tmod_eq_emod_of_nonneg (by omega)]
    refine wp_go rfl rfl ?_
    refine e_iflt rfl (fun c37 => absurd c37 (by omega)) (fun c37 => ?_)
    refine wp_go rfl rfl ?_
    refine wp_go rfl rfl ?_
    refine e_iadd rfl (by omega) ?_
    refine wp_go rfl rfl ?_
    refine e_get rfl rfl rfl rfl ?_
    refine e_alen rfl H31 rfl (by decide) ?_
    refine e_cle rfl (fun c49 => ?_) (fun c49 => absurd c49 (by omega))
    refine wp_go rfl rfl ?_
    refine e_get rfl rfl rfl rfl ?_
    refine wp_go rfl rfl ?_
    refine wp_go rfl rfl ?_
    refine e_get rfl H23 rfl rfl ?_
    refine wp_go rfl rfl ?_
    refine wp_go rfl rfl ?_
    refine e_copy rfl rfl H31 H27 (by omega) ?_
    refine wp_go rfl rfl ?_
    refine wp_go rfl rfl ?_
    refine e_get rfl rfl rfl rfl ?_
    refine wp_go rfl rfl ?_
    refine wp_go rfl rfl ?_
    refine e_iadd rfl (by omega) ?_
    refine e_ald rfl H31 rfl (by omega) ?_
    refine e_put (fs' := [xR 24, xI fk, xR 27, xR 28, xI (rw (Int.toNat (r + 8))), xI rn, xI x, xI wt, xR 29, xI tc, xI ru, xR 30, xR 32, xR 36, xI sc]) rfl H23 rfl rfl ?_
    refine wp_go rfl rfl ?_
    refine wp_go rfl rfl ?_
    refine e_get rfl rfl rfl rfl ?_
    refine wp_go rfl rfl ?_
    refine wp_go rfl rfl ?_
    refine e_iadd rfl (by omega) ?_
    refine wp_go rfl rfl ?_
    refine e_iadd rfl (by omega) ?_
    refine e_ald rfl H31 rfl (by omega) ?_
    refine e_put (fs' := [xR 24, xI fk, xR 27, xR 28, xI (rw (Int.toNat (r + 8))), xI rn, xI (rw (Int.toNat ((r + 8) + 1))), xI wt, xR 29, xI tc, xI ru, xR 30, xR 32, xR 36, xI sc]) rfl rfl rfl rfl ?_
    refine wp_go rfl rfl ?_
    refine wp_go rfl rfl ?_
    refine e_get rfl rfl rfl rfl ?_
    refine wp_go rfl rfl ?_
    refine wp_go rfl rfl ?_
    refine e_iadd rfl (by omega) ?_
    refine wp_go rfl rfl ?_
    refine e_iadd rfl (by omega) ?_
    refine e_ald rfl H31 rfl (by omega) ?_
    refine e_put (fs' := [xR 24, xI fk, xR 27, xR 28, xI (rw (Int.toNat (r + 8))), xI rn, xI (rw (Int.toNat ((r + 8) + 1))), xI (rw (Int.toNat ((r + 8) + 2))), xR 29, xI tc, xI ru, xR 30, xR 32, xR 36, xI sc]) rfl rfl rfl rfl ?_
    refine wp_go rfl rfl ?_
    refine wp_ret rfl rfl ?_
    simp only [hw_2]
    exact ky r hr2 (by omega)
  · skip
    refine wp_go rfl rfl ?_
    refine wp_ret rfl rfl ?_
    exact kn (by omega)
