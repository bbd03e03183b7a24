/-! small methods without a heap -/
abbrev tw (fk dy rn x wt tc ru sc : Int) : hc_E := .inr (7, [xR 24, xI fk, xR 27, xR 28, xI dy, xI rn, xI x, xI wt, xR 29, xI tc, xI ru, xR 30, xR 32, xR 36, xI sc])
set_option maxRecDepth 100000 in
theorem c_isWithin {d : Nat} {h : hc_H} {Q : List hc_V → hc_H → Prop} {v lo hi : Int}  (kt : (lo ≤ v ∧ v ≤ hi) → Q [xI 1] h) (kf : ¬ (lo ≤ v ∧ v ≤ hi) → Q [xI 0] h) : hc_wp d mX9_isWithin 0 [xI v, xI lo, xI hi] [] h Q := by
  refine wp_go rfl rfl ?_
  refine wp_go rfl rfl ?_
  refine e_clt rfl (fun c2 => ?_) (fun c2 => ?_)
  · skip
    refine wp_go rfl rfl ?_
    refine wp_ret rfl rfl ?_
    exact kf (by omega)
  · skip
    refine wp_go rfl rfl ?_
    refine wp_go rfl rfl ?_
    refine e_cgt rfl (fun c7 => ?_) (fun c7 => ?_)
    · skip
      refine wp_go rfl rfl ?_
      refine wp_ret rfl rfl ?_
      exact kf (by omega)
    · skip
      refine wp_go rfl rfl ?_
      refine wp_go rfl rfl ?_
      refine wp_ret rfl rfl ?_
      exact kt (by omega)
set_option maxRecDepth 100000 in
theorem c_isFolk {d : Nat} {h : hc_H} {Q : List hc_V → hc_H → Prop} {fk dy rn x wt tc ru sc who : Int} (H23 : h.2.2 23 = tw fk dy rn x wt tc ru sc) (kt : (0 ≤ who ∧ who < fk ∧ who < 8) → Q [xI 1] h) (kf : ¬ (0 ≤ who ∧ who < fk ∧ who < 8) → Q [xI 0] h) : hc_wp d mX7_isFolk 0 [xR 23, xI who] [] h Q := by
  refine wp_go rfl rfl ?_
  refine e_iflt rfl (fun c1 => ?_) (fun c1 => ?_)
  · skip
    refine wp_go rfl rfl ?_
    refine wp_ret rfl rfl ?_
    exact kf (by omega)
  · skip
    refine wp_go rfl rfl ?_
    refine wp_go rfl rfl ?_
    refine e_get rfl H23 rfl rfl ?_
    refine e_cge rfl (fun c9 => ?_) (fun c9 => ?_)
    · skip
      refine wp_go rfl rfl ?_
      refine wp_ret rfl rfl ?_
      exact kf (by omega)
    · skip
      refine wp_go rfl rfl ?_
      refine wp_go rfl rfl ?_
      refine e_cge rfl (fun c15 => ?_) (fun c15 => ?_)
      · skip
        refine wp_go rfl rfl ?_
        refine wp_ret rfl rfl ?_
        exact kf (by omega)
      · skip
        refine wp_go rfl rfl ?_
        refine wp_go rfl rfl ?_
        refine wp_ret rfl rfl ?_
        exact kt (by omega)
set_option maxRecDepth 100000 in
theorem c_isText {d : Nat} {h : hc_H} {Q : List hc_V → hc_H → Prop} {fk dy rn x wt tc ru sc t : Int} (H23 : h.2.2 23 = tw fk dy rn x wt tc ru sc) (kt : (0 ≤ t ∧ t < tc ∧ t < 4) → Q [xI 1] h) (kf : ¬ (0 ≤ t ∧ t < tc ∧ t < 4) → Q [xI 0] h) : hc_wp d mX7_isText 0 [xR 23, xI t] [] h Q := by
  refine wp_go rfl rfl ?_
  refine e_iflt rfl (fun c1 => ?_) (fun c1 => ?_)
  · skip
    refine wp_go rfl rfl ?_
    refine wp_ret rfl rfl ?_
    exact kf (by omega)
  · skip
    refine wp_go rfl rfl ?_
    refine wp_go rfl rfl ?_
    refine e_get rfl H23 rfl rfl ?_
    refine e_cge rfl (fun c9 => ?_) (fun c9 => ?_)
    · skip
      refine wp_go rfl rfl ?_
      refine wp_ret rfl rfl ?_
      exact kf (by omega)
    · skip
      refine wp_go rfl rfl ?_
      refine wp_go rfl rfl ?_
      refine e_cge rfl (fun c14 => ?_) (fun c14 => ?_)
      · skip
        refine wp_go rfl rfl ?_
        refine wp_ret rfl rfl ?_
        exact kf (by omega)
      · skip
        refine wp_go rfl rfl ?_
        refine wp_go rfl rfl ?_
        refine wp_ret rfl rfl ?_
        exact kt (by omega)
set_option maxRecDepth 100000 in
theorem c_word {d : Nat} {h : hc_H} {Q : List hc_V → hc_H → Prop} {kd nb : Int} (hr : 0 ≤ nb ∧ nb ≤ 100000 ∧ 0 ≤ kd ∧ kd ≤ 63) (k : Q [xI (nb * 64 + kd)] h) : hc_wp d mX8_word 0 [xI kd, xI nb] [] h Q := by
  refine wp_go rfl rfl ?_
  refine wp_go rfl rfl ?_
  refine e_imul rfl (by omega) ?_
  refine wp_go rfl rfl ?_
  refine e_iadd rfl (by omega) ?_
  refine wp_ret rfl rfl ?_
  exact k
