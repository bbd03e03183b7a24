/-! the reference: the part of a set -/
def ptk (sm M : Nat → Int) (S T : Nat) : Bool := decide (dif T S = 0 ∧ Nat.testBit T (tz S) = true ∧ sm T = 0 ∧ 0 ≤ M (dif S T) ∧ M (dif S T) + 1 = M S)
def ptl (sm M : Nat → Int) (S : Nat) : Nat → Nat → Nat
  | 0, _ => 0
  | g + 1, T => if S < T then 0 else if ptk sm M S T = true then T else ptl sm M S g (T + 1)
set_option maxRecDepth 100000 in
theorem l_mpart {d : Nat} {h : hc_H} {Q : List hc_V → hc_H → Prop} {S r : Nat} {s sm M : Nat → Int} (h1 : 1 ≤ S) (hS : S < 256) (hM : ∀ q, q < 256 → -1 ≤ M q ∧ M q ≤ 1000) (H71 : h.2.2 71 = mo s) (H81 : h.2.2 81 = ar 256 sm) (H82 : h.2.2 82 = ar 256 M) (k : Q [xI (r : Int)] h) : ∀ (n j : Nat), S ≤ j + n → ptl sm M S (n + 1) (j + 1) = r → hc_wp (d + 2) mX10_partOf 9 [xR 71, xI (S : Int), xI (hc_shl 1 ((tz S : Nat) : Int)), xI ((j + 1 : Nat) : Int)] [] h Q := by
  intro n
  induction n with
  | zero =>
    intro j hj hr
    refine wp_go rfl rfl ?_
    refine wp_go rfl rfl ?_
    refine e_cgt rfl (fun c11 => ?_) (fun c11 => absurd c11 (by omega))
    refine wp_go rfl rfl ?_
    refine wp_ret rfl rfl ?_
    rw [ptl, if_pos (by omega)] at hr
    rw [← hr] at k
    exact k
  | succ n ih =>
    intro j hj hr
    refine wp_go rfl rfl ?_
    refine wp_go rfl rfl ?_
    refine e_cgt rfl (fun c11 => ?_) (fun c11 => ?_)
    · skip
      refine wp_go rfl rfl ?_
      refine wp_ret rfl rfl ?_
      rw [ptl, if_pos (by omega)] at hr
      rw [← hr] at k
      exact k
    · skip
      refine wp_go rfl rfl ?_
      refine wp_go rfl rfl ?_
      refine wp_go rfl rfl ?_
      refine wp_go rfl rfl ?_
      refine wp_go rfl rfl ?_
      rw [b_dif (show j + 1 < 256 by omega) hS]
      refine e_ifne rfl (fun c19 => ?_) (fun c19 => ?_)
      · skip
        refine e_inc (L' := [xR 71, xI (S : Int), xI (hc_shl 1 ((tz S : Nat) : Int)), xI (((j + 1 : Nat) : Int) + 1)]) rfl rfl (by omega) rfl ?_
        rw [show ((j + 1 : Nat) : Int) + 1 = ((j + 1 + 1 : Nat) : Int) from rfl]
        refine wp_go rfl rfl ?_
        have hno : ¬ ptk sm M S (j + 1) = true := fun z => by
          obtain ⟨z1, z2, z3, z4, z5⟩ := of_decide_eq_true z
          omega
        rw [ptl, if_neg (by omega), if_neg hno] at hr
        exact ih (j + 1) (by omega) hr
      · skip
        refine wp_go rfl rfl ?_
        refine wp_go rfl rfl ?_
        refine wp_go rfl rfl ?_
        obtain ⟨bv, hb1, hb2⟩ := b_tx (show j + 1 < 256 by omega) (tz_lt (s := S))
        rw [hb1]
        refine e_ifeq rfl (fun c25 => ?_) (fun c25 => ?_)
        · skip
          refine e_inc (L' := [xR 71, xI (S : Int), xI (hc_shl 1 ((tz S : Nat) : Int)), xI (((j + 1 : Nat) : Int) + 1)]) rfl rfl (by omega) rfl ?_
          rw [show ((j + 1 : Nat) : Int) + 1 = ((j + 1 + 1 : Nat) : Int) from rfl]
          refine wp_go rfl rfl ?_
          have hno : ¬ ptk sm M S (j + 1) = true := fun z => by
            obtain ⟨z1, z2, z3, z4, z5⟩ := of_decide_eq_true z
            rw [hb2.1 c25] at z2; exact nomatch z2
          rw [ptl, if_neg (by omega), if_neg hno] at hr
          exact ih (j + 1) (by omega) hr
        · skip
          refine wp_go rfl rfl ?_
          refine e_get rfl H71 rfl rfl ?_
          refine wp_go rfl rfl ?_
          refine e_aldE (p := j + 1) rfl H81 rfl ⟨by omega, by omega⟩ ?_
          refine e_ifeq rfl (fun c34 => ?_) (fun c34 => ?_)
          · skip
            have hbt : Nat.testBit (j + 1) (tz S) = true := by
              cases e : Nat.testBit (j + 1) (tz S) with
              | true => rfl
              | false => exact absurd (hb2.2 e) c25
            have hdl := dif_le (s := S) (t := j + 1)
            have hMd := hM (dif S (j + 1)) (by omega)
            refine wp_go rfl rfl ?_
            refine e_get rfl H71 rfl rfl ?_
            refine wp_go rfl rfl ?_
            refine wp_go rfl rfl ?_
            refine wp_go rfl rfl ?_
            refine wp_go rfl rfl ?_
            refine wp_go rfl rfl ?_
            rw [b_dif hS (show j + 1 < 256 by omega)]
            refine e_aldE (p := dif S (j + 1)) rfl H82 rfl ⟨by omega, by omega⟩ ?_
            refine e_iflt rfl (fun c50 => ?_) (fun c50 => ?_)
            · skip
              refine e_inc (L' := [xR 71, xI (S : Int), xI (hc_shl 1 ((tz S : Nat) : Int)), xI (((j + 1 : Nat) : Int) + 1)]) rfl rfl (by omega) rfl ?_
              rw [show ((j + 1 : Nat) : Int) + 1 = ((j + 1 + 1 : Nat) : Int) from rfl]
              refine wp_go rfl rfl ?_
              have hno : ¬ ptk sm M S (j + 1) = true := fun z => by
                obtain ⟨z1, z2, z3, z4, z5⟩ := of_decide_eq_true z
                omega
              rw [ptl, if_neg (by omega), if_neg hno] at hr
              exact ih (j + 1) (by omega) hr
            · skip
              refine wp_go rfl rfl ?_
              refine e_get rfl H71 rfl rfl ?_
              refine wp_go rfl rfl ?_
              refine wp_go rfl rfl ?_
              refine wp_go rfl rfl ?_
              refine wp_go rfl rfl ?_
              refine wp_go rfl rfl ?_
              rw [b_dif hS (show j + 1 < 256 by omega)]
              refine e_aldE (p := dif S (j + 1)) rfl H82 rfl ⟨by omega, by omega⟩ ?_
              refine wp_go rfl rfl ?_
              refine e_iadd rfl (by omega) ?_
              refine wp_go rfl rfl ?_
              refine e_get rfl H71 rfl rfl ?_
              refine wp_go rfl rfl ?_
              refine e_aldE (p := S) rfl H82 rfl ⟨by omega, by omega⟩ ?_
              refine e_cne rfl (fun c71 => ?_) (fun c71 => ?_)
              · skip
                refine e_inc (L' := [xR 71, xI (S : Int), xI (hc_shl 1 ((tz S : Nat) : Int)), xI (((j + 1 : Nat) : Int) + 1)]) rfl rfl (by omega) rfl ?_
                rw [show ((j + 1 : Nat) : Int) + 1 = ((j + 1 + 1 : Nat) : Int) from rfl]
                refine wp_go rfl rfl ?_
                have hno : ¬ ptk sm M S (j + 1) = true := fun z => by
                  obtain ⟨z1, z2, z3, z4, z5⟩ := of_decide_eq_true z
                  omega
                rw [ptl, if_neg (by omega), if_neg hno] at hr
                exact ih (j + 1) (by omega) hr
              · skip
                refine wp_go rfl rfl ?_
                refine wp_ret rfl rfl ?_
                have hyes : ptk sm M S (j + 1) = true := decide_eq_true ⟨by omega, hbt, by omega, by omega, by omega⟩
                rw [ptl, if_neg (by omega), if_pos hyes] at hr
                rw [hr]
                exact k
          · skip
            refine wp_go rfl rfl ?_
            refine e_inc (L' := [xR 71, xI (S : Int), xI (hc_shl 1 ((tz S : Nat) : Int)), xI (((j + 1 : Nat) : Int) + 1)]) rfl rfl (by omega) rfl ?_
            rw [show ((j + 1 : Nat) : Int) + 1 = ((j + 1 + 1 : Nat) : Int) from rfl]
            refine wp_go rfl rfl ?_
            have hno : ¬ ptk sm M S (j + 1) = true := fun z => by
              obtain ⟨z1, z2, z3, z4, z5⟩ := of_decide_eq_true z
              omega
            rw [ptl, if_neg (by omega), if_neg hno] at hr
            exact ih (j + 1) (by omega) hr
