/-! the reference: the next free one, sums of marriages -/
def nxf (pt : Nat → Int) : Nat → Nat → Int
  | 0, _ => -1
  | g + 1, j => if pt j < 0 then (j : Int) else nxf pt g (j + 1)
def sal (lw pt : Nat → Int) : Nat → Int
  | 0 => 0
  | j + 1 => sal lw pt j + (if pt j < (j : Int) then 0 else lw (8 * j + Int.toNat (pt j)))
set_option maxRecDepth 100000 in
theorem l_mnext {d : Nat} {h : hc_H} {Q : List hc_V → hc_H → Prop} {nf : Nat} {r : Int} {s A pt : Nat → Int} (hn : nf ≤ 8) (h0 : A 0 = (nf : Int)) (H71 : h.2.2 71 = mo s) (H72 : h.2.2 72 = ar 456 A) (H84 : h.2.2 84 = ar 8 pt) (k : Q [xI r] h) : ∀ (n j : Nat), (j ≤ nf ∧ nf < j + n) → nxf pt (nf - j) j = r → hc_wp d mX10_nextFree 2 [xR 71, xI (j : Int)] [] h Q := by
  intro n
  induction n with
  | zero =>
    intro j hj
    exact absurd hj (by omega)
  | succ n ih =>
    intro j hj hr
    refine wp_go rfl rfl ?_
    refine wp_go rfl rfl ?_
    refine e_get rfl H71 rfl rfl ?_
    refine wp_go rfl rfl ?_
    refine e_aldE (p := 0) rfl H72 rfl ⟨by omega, by omega⟩ ?_
    rw [h0]
    refine e_cge rfl (fun c9 => ?_) (fun c9 => ?_)
    · skip
      refine wp_go rfl rfl ?_
      refine wp_ret rfl rfl ?_
      rw [show nf - j = 0 by omega, nxf] at hr
      rw [← hr] at k
      exact k
    · skip
      refine wp_go rfl rfl ?_
      refine e_get rfl H71 rfl rfl ?_
      refine wp_go rfl rfl ?_
      refine e_aldE (p := j) rfl H84 rfl ⟨by omega, by omega⟩ ?_
      refine e_ifge rfl (fun c18 => ?_) (fun c18 => ?_)
      · skip
        refine e_inc (L' := [xR 71, xI ((j : Int) + 1)]) rfl rfl (by omega) rfl ?_
        refine wp_go rfl rfl ?_
        refine ih (j + 1) (by omega) ?_
        rw [show nf - j = (nf - (j + 1)) + 1 by omega, nxf, if_neg (by omega)] at hr
        exact hr
      · skip
        refine wp_go rfl rfl ?_
        refine wp_ret rfl rfl ?_
        rw [show nf - j = (nf - (j + 1)) + 1 by omega, nxf, if_pos (by omega)] at hr
        rw [← hr] at k
        exact k
set_option maxRecDepth 100000 in
theorem c_mnext {d : Nat} {h : hc_H} {Q : List hc_V → hc_H → Prop} {nf : Nat} {s A pt : Nat → Int} (hn : nf ≤ 8) (h0 : A 0 = (nf : Int)) (H71 : h.2.2 71 = mo s) (H72 : h.2.2 72 = ar 456 A) (H84 : h.2.2 84 = ar 8 pt) (k : Q [xI (nxf pt nf 0)] h) : hc_wp d mX10_nextFree 0 [xR 71, none] [] h Q := by
  refine wp_go rfl rfl ?_
  refine e_istn (L' := [xR 71, xI 0]) rfl rfl rfl ?_
  exact l_mnext hn h0 H71 H72 H84 k (nf + 1) 0 (by omega) rfl
set_option maxRecDepth 100000 in
theorem l_msal {d : Nat} {h : hc_H} {Q : List hc_V → hc_H → Prop} {nf : Nat} {s A pt lw : Nat → Int} (hn : nf ≤ 8) (h0 : A 0 = (nf : Int)) (H71 : h.2.2 71 = mo s) (H72 : h.2.2 72 = ar 456 A) (H84 : h.2.2 84 = ar 8 pt) (H86 : h.2.2 86 = ar 64 lw) (hpt : ∀ j, j < nf → -1 ≤ pt j ∧ pt j < (nf : Int)) (hlw : ∀ p q, p < nf → q < nf → 0 ≤ lw (8 * p + q) ∧ lw (8 * p + q) ≤ 720720) (k : Q [xI (sal lw pt nf)] h) : ∀ (n j : Nat) (v : Int), (j ≤ nf ∧ nf < j + n) → (0 ≤ v ∧ v ≤ 720720 * (j : Int)) → v = sal lw pt j → hc_wp d mX10_sumOfAll 4 [xR 71, xI v, xI (j : Int)] [] h Q := by
  intro n
  induction n with
  | zero =>
    intro j v hj
    exact absurd hj (by omega)
  | succ n ih =>
    intro j v hj hvb hv
    refine wp_go rfl rfl ?_
    refine wp_go rfl rfl ?_
    refine e_get rfl H71 rfl rfl ?_
    refine wp_go rfl rfl ?_
    refine e_aldE (p := 0) rfl H72 rfl ⟨by omega, by omega⟩ ?_
    rw [h0]
    refine e_cge rfl (fun c11 => ?_) (fun c11 => ?_)
    · skip
      refine wp_go rfl rfl ?_
      refine wp_ret rfl rfl ?_
      rw [hv, show j = nf by omega]
      exact k
    · skip
      have hpj := hpt j (by omega)
      refine wp_go rfl rfl ?_
      refine wp_go rfl rfl ?_
      refine e_get rfl H71 rfl rfl ?_
      refine wp_go rfl rfl ?_
      refine e_aldE (p := j) rfl H84 rfl ⟨by omega, by omega⟩ ?_
      refine wp_go rfl rfl ?_
      refine e_clt rfl (fun c22 => ?_) (fun c22 => ?_)
      · skip
        refine wp_go rfl rfl ?_
        refine e_iadd rfl (by omega) ?_
        refine e_istn (L' := [xR 71, xI (v + 0), xI (j : Int)]) rfl rfl rfl ?_
        refine e_inc (L' := [xR 71, xI (v + 0), xI ((j : Int) + 1)]) rfl rfl (by omega) rfl ?_
        refine wp_go rfl rfl ?_
        have hsl : sal lw pt (j + 1) = sal lw pt j + 0 := by rw [sal, if_pos (by omega)]
        exact ih (j + 1) _ (by omega) (by omega) (by rw [hsl, hv])
      · skip
        have hlj := hlw j (Int.toNat (pt j)) (by omega) (by omega)
        refine wp_go rfl rfl ?_
        refine e_get rfl H71 rfl rfl ?_
        refine wp_go rfl rfl ?_
        refine wp_go rfl rfl ?_
        refine e_imul rfl (by omega) ?_
        refine wp_go rfl rfl ?_
        refine e_get rfl H71 rfl rfl ?_
        refine wp_go rfl rfl ?_
        refine e_aldE (p := j) rfl H84 rfl ⟨by omega, by omega⟩ ?_
        refine e_iadd rfl (by omega) ?_
        refine e_aldE (p := 8 * j + Int.toNat (pt j)) rfl H86 rfl ⟨by omega, by omega⟩ ?_
        refine wp_go rfl rfl ?_
        refine e_iadd rfl (by omega) ?_
        refine e_istn (L' := [xR 71, xI (v + (lw (8 * j + Int.toNat (pt j)))), xI (j : Int)]) rfl rfl rfl ?_
        refine e_inc (L' := [xR 71, xI (v + (lw (8 * j + Int.toNat (pt j)))), xI ((j : Int) + 1)]) rfl rfl (by omega) rfl ?_
        refine wp_go rfl rfl ?_
        have hsl : sal lw pt (j + 1) = sal lw pt j + lw (8 * j + Int.toNat (pt j)) := by rw [sal, if_neg (by omega)]
        exact ih (j + 1) _ (by omega) (by omega) (by rw [hsl, hv])
set_option maxRecDepth 100000 in
theorem c_msal {d : Nat} {h : hc_H} {Q : List hc_V → hc_H → Prop} {nf : Nat} {s A pt lw : Nat → Int} (hn : nf ≤ 8) (h0 : A 0 = (nf : Int)) (H71 : h.2.2 71 = mo s) (H72 : h.2.2 72 = ar 456 A) (H84 : h.2.2 84 = ar 8 pt) (H86 : h.2.2 86 = ar 64 lw) (hpt : ∀ j, j < nf → -1 ≤ pt j ∧ pt j < (nf : Int)) (hlw : ∀ p q, p < nf → q < nf → 0 ≤ lw (8 * p + q) ∧ lw (8 * p + q) ≤ 720720) (k : Q [xI (sal lw pt nf)] h) : hc_wp d mX10_sumOfAll 0 [xR 71, none, none] [] h Q := by
  refine wp_go rfl rfl ?_
  refine e_istn (L' := [xR 71, xI 0, none]) rfl rfl rfl ?_
  refine wp_go rfl rfl ?_
  refine e_istn (L' := [xR 71, xI 0, xI 0]) rfl rfl rfl ?_
  exact l_msal hn h0 H71 H72 H84 H86 hpt hlw k (nf + 1) 0 0 (by omega) (by omega) rfl
