/-! the class: the works of a sum -/
theorem hc_l2i_id {v : Int} (h1 : -2147483648 ≤ v) (h2 : v ≤ 2147483647) : hc_l2i v = v := by
  unfold hc_l2i
  rw [Int64.toInt_toInt32, Int64.toInt_ofInt, hc_bm64 (by omega) (by omega)]
  exact hc_bm h1 h2
theorem k3_le {x y : Int} : hc_cmp3 x y ≤ 0 ↔ x ≤ y := by unfold hc_cmp3; split <;> (try split) <;> omega
theorem k3_ge {x y : Int} : 0 ≤ hc_cmp3 x y ↔ y ≤ x := by unfold hc_cmp3; split <;> (try split) <;> omega
theorem k3_lt {x y : Int} : hc_cmp3 x y < 0 ↔ x < y := by unfold hc_cmp3; split <;> (try split) <;> omega
theorem k3_gt {x y : Int} : 0 < hc_cmp3 x y ↔ y < x := by unfold hc_cmp3; split <;> (try split) <;> omega
theorem k3_eq {x y : Int} : hc_cmp3 x y = 0 ↔ x = y := by unfold hc_cmp3; split <;> (try split) <;> omega
def clp (v : Int) : Int := if 1000000 < v then 1000000 else if v < -1000000 then -1000000 else v
theorem clp_bd (v : Int) : -1000000 ≤ clp v ∧ clp v ≤ 1000000 := by unfold clp; split <;> (try split) <;> omega
abbrev wk (ht : Int) : hc_E := .inr (8, [xR 25, xR 26, xI ht])
set_option maxRecDepth 100000 in
theorem c_name {d : Nat} {h : hc_H} {Q : List hc_V → hc_H → Prop} {kd v ht : Int} {nm : Nat → Int} (H24 : h.2.2 24 = wk ht) (H25 : h.2.2 25 = ar 64 nm) (hk : 0 ≤ kd ∧ kd ≤ 63) (k : Q [] (hc_wr h 25 (ar 64 (hc_u nm (Int.toNat kd) v)))) : hc_wp (d + 1) mX8_name 0 [xR 24, xI kd, xI v] [] h Q := by
  refine wp_go rfl rfl ?_
  refine wp_go rfl rfl ?_
  refine wp_go rfl rfl ?_
  refine wp_call rfl rfl rfl rfl ?_
  refine c_isWithin  (fun q4 => ?_) (fun q4 => ?_)
  · skip
    refine wp_go rfl rfl ?_
    refine wp_go rfl rfl ?_
    refine e_get rfl H24 rfl rfl ?_
    refine wp_go rfl rfl ?_
    refine wp_go rfl rfl ?_
    refine e_iast rfl H25 (by omega) ?_
    refine wp_ret rfl rfl ?_
    exact k
  · skip
    refine wp_go rfl rfl ?_
    refine wp_ret rfl rfl ?_
    exact absurd hk q4
set_option maxRecDepth 100000 in
theorem c_push {d : Nat} {h : hc_H} {Q : List hc_V → hc_H → Prop} {ht v : Int} {vs : Nat → Int} (H24 : h.2.2 24 = wk ht) (H26 : h.2.2 26 = ar 64 vs) (hh : 0 ≤ ht ∧ ht < 64) (k : Q [] (hc_wr (hc_wr h 26 (ar 64 (hc_u vs (Int.toNat ht) (clp v)))) 24 (wk (ht + 1)))) : hc_wp d mX8_push 0 [xR 24, xL v, none] [] h Q := by
  refine wp_go rfl rfl ?_
  refine e_get rfl H24 rfl rfl ?_
  refine e_iflt rfl (fun c4 => absurd c4 (by omega)) (fun c4 => ?_)
  refine wp_go rfl rfl ?_
  refine e_get rfl H24 rfl rfl ?_
  refine wp_go rfl rfl ?_
  refine e_cge rfl (fun c13 => absurd c13 (by omega)) (fun c13 => ?_)
  refine wp_go rfl rfl ?_
  refine e_get rfl H24 rfl rfl ?_
  refine wp_go rfl rfl ?_
  refine e_get rfl H24 rfl rfl ?_
  refine wp_go rfl rfl ?_
  refine e_ldc2 (1000000) rfl rfl ?_
  refine wp_go rfl rfl ?_
  refine e_ifle rfl (fun c29 => ?_) (fun c29 => ?_)
  · skip
    refine wp_go rfl rfl ?_
    refine e_ldc2n (-1000000) rfl rfl ?_
    refine wp_go rfl rfl ?_
    refine e_ifge rfl (fun c43 => ?_) (fun c43 => ?_)
    · skip
      refine wp_go rfl rfl ?_
      refine wp_go rfl rfl ?_
      refine e_iast rfl H26 (by omega) ?_
      refine wp_go rfl rfl ?_
      refine wp_go rfl rfl ?_
      refine e_get rfl H24 rfl rfl ?_
      refine wp_go rfl rfl ?_
      refine e_iadd rfl (by omega) ?_
      refine e_put (fs' := [xR 25, xR 26, xI (ht + 1)]) rfl H24 rfl rfl ?_
      refine wp_ret rfl rfl ?_
      have e : (hc_l2i v) = clp v := by
        have b1 := k3_le.mp c29
        have b2 := k3_ge.mp c43
        rw [hc_l2i_id (by omega) (by omega)]
        unfold clp
        rw [if_neg (by omega), if_neg (by omega)]
      rw [e]
      exact k
    · skip
      refine e_ldc2n (-1000000) rfl rfl ?_
      refine wp_go rfl rfl ?_
      refine wp_go rfl rfl ?_
      refine e_iast rfl H26 (by omega) ?_
      refine wp_go rfl rfl ?_
      refine wp_go rfl rfl ?_
      refine e_get rfl H24 rfl rfl ?_
      refine wp_go rfl rfl ?_
      refine e_iadd rfl (by omega) ?_
      refine e_put (fs' := [xR 25, xR 26, xI (ht + 1)]) rfl H24 rfl rfl ?_
      refine wp_ret rfl rfl ?_
      have e : (hc_l2i (-1000000)) = clp v := by
        rw [hc_l2i_id (by omega) (by omega)]
        unfold clp
        rw [if_neg (Int.not_lt.mpr (k3_le.mp c29)), if_pos (Int.not_le.mp (fun q => c43 (k3_ge.mpr q)))]
      rw [e]
      exact k
  · skip
    refine e_ldc2 (1000000) rfl rfl ?_
    refine wp_go rfl rfl ?_
    refine wp_go rfl rfl ?_
    refine e_iast rfl H26 (by omega) ?_
    refine wp_go rfl rfl ?_
    refine wp_go rfl rfl ?_
    refine e_get rfl H24 rfl rfl ?_
    refine wp_go rfl rfl ?_
    refine e_iadd rfl (by omega) ?_
    refine e_put (fs' := [xR 25, xR 26, xI (ht + 1)]) rfl H24 rfl rfl ?_
    refine wp_ret rfl rfl ?_
    have e : (hc_l2i 1000000) = clp v := by
      rw [hc_l2i_id (by omega) (by omega)]
      unfold clp
      rw [if_pos (Int.not_le.mp (fun q => c29 (k3_le.mpr q)))]
    rw [e]
    exact k
set_option maxRecDepth 100000 in
theorem c_pop {d : Nat} {h : hc_H} {Q : List hc_V → hc_H → Prop} {ht : Int} {vs : Nat → Int} (H24 : h.2.2 24 = wk ht) (H26 : h.2.2 26 = ar 64 vs) (hh : 0 < ht ∧ ht ≤ 64) (k : Q [xI (vs (Int.toNat (ht - 1)))] (hc_wr h 24 (wk (ht - 1)))) : hc_wp d mX8_pop 0 [xR 24] [] h Q := by
  refine wp_go rfl rfl ?_
  refine e_get rfl H24 rfl rfl ?_
  refine wp_go rfl rfl ?_
  refine e_clt rfl (fun c5 => absurd c5 (by omega)) (fun c5 => ?_)
  refine wp_go rfl rfl ?_
  refine e_get rfl H24 rfl rfl ?_
  refine wp_go rfl rfl ?_
  refine e_cle rfl (fun c14 => ?_) (fun c14 => absurd c14 (by omega))
  refine wp_go rfl rfl ?_
  refine wp_go rfl rfl ?_
  refine e_get rfl H24 rfl rfl ?_
  refine wp_go rfl rfl ?_
  refine e_isub rfl (by omega) ?_
  refine e_put (fs' := [xR 25, xR 26, xI (ht - 1)]) rfl H24 rfl rfl ?_
  refine wp_go rfl rfl ?_
  refine e_get rfl rfl rfl rfl ?_
  refine wp_go rfl rfl ?_
  refine e_get rfl rfl rfl rfl ?_
  refine e_ald rfl H26 rfl (by omega) ?_
  refine wp_ret rfl rfl ?_
  exact k
def rk (kd : Nat) (x y : Int) : Int := if kd = 46 then x + y else if kd = 47 then x - y else if kd = 48 then x * y else if y = 0 then 0 else Int.tdiv x y
theorem tdiv_bd {x y : Int} (h1 : -1000000 ≤ x) (h2 : x ≤ 1000000) : -1000000 ≤ Int.tdiv x y ∧ Int.tdiv x y ≤ 1000000 := by
  have h := Int.natAbs_tdiv_le_natAbs x y
  omega
theorem mul_bd {x y : Int} (h1 : -1000000 ≤ x) (h2 : x ≤ 1000000) (h3 : -1000000 ≤ y) (h4 : y ≤ 1000000) : -1000000000000 ≤ x * y ∧ x * y ≤ 1000000000000 := by
  have h : (x * y).natAbs ≤ 1000000 * 1000000 := by
    rw [Int.natAbs_mul]
    exact Nat.mul_le_mul (by omega) (by omega)
  omega
set_option maxRecDepth 100000 in
theorem c_reckon46 {d : Nat} {h : hc_H} {Q : List hc_V → hc_H → Prop} {x y : Int} (hx : -1000000 ≤ x ∧ x ≤ 1000000) (hy : -1000000 ≤ y ∧ y ≤ 1000000) (k : Q [xL (rk 46 x y)] h) : hc_wp d mX8_reckon 0 [xI 46, xL x, none, xL y, none] [] h Q := by
  refine wp_go rfl rfl ?_
  refine wp_go rfl rfl ?_
  refine wp_go rfl rfl ?_
  refine wp_go rfl rfl ?_
  refine e_ladd rfl (by omega) ?_
  refine wp_ret rfl rfl ?_
  exact k
set_option maxRecDepth 100000 in
theorem c_reckon47 {d : Nat} {h : hc_H} {Q : List hc_V → hc_H → Prop} {x y : Int} (hx : -1000000 ≤ x ∧ x ≤ 1000000) (hy : -1000000 ≤ y ∧ y ≤ 1000000) (k : Q [xL (rk 47 x y)] h) : hc_wp d mX8_reckon 0 [xI 47, xL x, none, xL y, none] [] h Q := by
  refine wp_go rfl rfl ?_
  refine wp_go rfl rfl ?_
  refine wp_go rfl rfl ?_
  refine wp_go rfl rfl ?_
  refine e_lsub rfl (by omega) ?_
  refine wp_ret rfl rfl ?_
  exact k
set_option maxRecDepth 100000 in
theorem c_reckon48 {d : Nat} {h : hc_H} {Q : List hc_V → hc_H → Prop} {x y : Int} (hx : -1000000 ≤ x ∧ x ≤ 1000000) (hy : -1000000 ≤ y ∧ y ≤ 1000000) (k : Q [xL (rk 48 x y)] h) : hc_wp d mX8_reckon 0 [xI 48, xL x, none, xL y, none] [] h Q := by
  refine wp_go rfl rfl ?_
  refine wp_go rfl rfl ?_
  refine wp_go rfl rfl ?_
  refine wp_go rfl rfl ?_
  refine e_lmul rfl (by have := mul_bd hx.1 hx.2 hy.1 hy.2; omega) ?_
  refine wp_ret rfl rfl ?_
  exact k
set_option maxRecDepth 100000 in
theorem c_reckon49 {d : Nat} {h : hc_H} {Q : List hc_V → hc_H → Prop} {x y : Int} (hx : -1000000 ≤ x ∧ x ≤ 1000000) (hy : -1000000 ≤ y ∧ y ≤ 1000000) (k : Q [xL (rk 49 x y)] h) : hc_wp d mX8_reckon 0 [xI 49, xL x, none, xL y, none] [] h Q := by
  refine wp_go rfl rfl ?_
  refine wp_go rfl rfl ?_
  refine wp_go rfl rfl ?_
  refine e_lconst 0 rfl rfl ?_
  refine wp_go rfl rfl ?_
  refine e_ifne rfl (fun c43 => ?_) (fun c43 => ?_)
  · skip
    refine wp_go rfl rfl ?_
    refine wp_go rfl rfl ?_
    refine e_ldiv rfl (fun q => c43 (k3_eq.mpr q)) (by have := tdiv_bd (y := y) hx.1 hx.2; omega) ?_
    refine wp_ret rfl rfl ?_
    have e : rk 49 x y = Int.tdiv x y := by simp [rk, show ¬ y = 0 from fun q => c43 (k3_eq.mpr q)]
    rw [← e]
    exact k
  · skip
    refine e_lconst 0 rfl rfl ?_
    refine wp_go rfl rfl ?_
    refine wp_ret rfl rfl ?_
    have e : rk 49 x y = 0 := by simp [rk, k3_eq.mp c43]
    rw [← e]
    exact k
set_option maxRecDepth 100000 in
theorem c_isTrue40 {d : Nat} {h : hc_H} {Q : List hc_V → hc_H → Prop} {x y : Int} (hx : -1000000 ≤ x ∧ x ≤ 1000000) (hy : -1000000 ≤ y ∧ y ≤ 1000000) (kt : x < y → Q [xI 1] h) (kf : ¬ (x < y) → Q [xI 0] h) : hc_wp d mX8_isTrue 0 [xI 40, xI x, xI y] [] h Q := by
  refine wp_go rfl rfl ?_
  refine wp_go rfl rfl ?_
  refine wp_go rfl rfl ?_
  refine wp_go rfl rfl ?_
  refine e_cge rfl (fun c70 => ?_) (fun c70 => ?_)
  · skip
    refine wp_go rfl rfl ?_
    refine wp_ret rfl rfl ?_
    exact kf (by omega)
  · skip
    refine wp_go rfl rfl ?_
    refine wp_go rfl rfl ?_
    refine wp_ret rfl rfl ?_
    exact kt (by omega)
set_option maxRecDepth 100000 in
theorem c_isTrue41 {d : Nat} {h : hc_H} {Q : List hc_V → hc_H → Prop} {x y : Int} (hx : -1000000 ≤ x ∧ x ≤ 1000000) (hy : -1000000 ≤ y ∧ y ≤ 1000000) (kt : x ≤ y → Q [xI 1] h) (kf : ¬ (x ≤ y) → Q [xI 0] h) : hc_wp d mX8_isTrue 0 [xI 41, xI x, xI y] [] h Q := by
  refine wp_go rfl rfl ?_
  refine wp_go rfl rfl ?_
  refine wp_go rfl rfl ?_
  refine wp_go rfl rfl ?_
  refine e_cgt rfl (fun c81 => ?_) (fun c81 => ?_)
  · skip
    refine wp_go rfl rfl ?_
    refine wp_ret rfl rfl ?_
    exact kf (by omega)
  · skip
    refine wp_go rfl rfl ?_
    refine wp_go rfl rfl ?_
    refine wp_ret rfl rfl ?_
    exact kt (by omega)
set_option maxRecDepth 100000 in
theorem c_isTrue42 {d : Nat} {h : hc_H} {Q : List hc_V → hc_H → Prop} {x y : Int} (hx : -1000000 ≤ x ∧ x ≤ 1000000) (hy : -1000000 ≤ y ∧ y ≤ 1000000) (kt : y < x → Q [xI 1] h) (kf : ¬ (y < x) → Q [xI 0] h) : hc_wp d mX8_isTrue 0 [xI 42, xI x, xI y] [] h Q := by
  refine wp_go rfl rfl ?_
  refine wp_go rfl rfl ?_
  refine wp_go rfl rfl ?_
  refine wp_go rfl rfl ?_
  refine e_cle rfl (fun c92 => ?_) (fun c92 => ?_)
  · skip
    refine wp_go rfl rfl ?_
    refine wp_ret rfl rfl ?_
    exact kf (by omega)
  · skip
    refine wp_go rfl rfl ?_
    refine wp_go rfl rfl ?_
    refine wp_ret rfl rfl ?_
    exact kt (by omega)
set_option maxRecDepth 100000 in
theorem c_isTrue43 {d : Nat} {h : hc_H} {Q : List hc_V → hc_H → Prop} {x y : Int} (hx : -1000000 ≤ x ∧ x ≤ 1000000) (hy : -1000000 ≤ y ∧ y ≤ 1000000) (kt : y ≤ x → Q [xI 1] h) (kf : ¬ (y ≤ x) → Q [xI 0] h) : hc_wp d mX8_isTrue 0 [xI 43, xI x, xI y] [] h Q := by
  refine wp_go rfl rfl ?_
  refine wp_go rfl rfl ?_
  refine wp_go rfl rfl ?_
  refine wp_go rfl rfl ?_
  refine e_clt rfl (fun c103 => ?_) (fun c103 => ?_)
  · skip
    refine wp_go rfl rfl ?_
    refine wp_ret rfl rfl ?_
    exact kf (by omega)
  · skip
    refine wp_go rfl rfl ?_
    refine wp_go rfl rfl ?_
    refine wp_ret rfl rfl ?_
    exact kt (by omega)
set_option maxRecDepth 100000 in
theorem c_isTrue44 {d : Nat} {h : hc_H} {Q : List hc_V → hc_H → Prop} {x y : Int} (hx : -1000000 ≤ x ∧ x ≤ 1000000) (hy : -1000000 ≤ y ∧ y ≤ 1000000) (kt : x = y → Q [xI 1] h) (kf : ¬ (x = y) → Q [xI 0] h) : hc_wp d mX8_isTrue 0 [xI 44, xI x, xI y] [] h Q := by
  refine wp_go rfl rfl ?_
  refine wp_go rfl rfl ?_
  refine wp_go rfl rfl ?_
  refine wp_go rfl rfl ?_
  refine e_cne rfl (fun c114 => ?_) (fun c114 => ?_)
  · skip
    refine wp_go rfl rfl ?_
    refine wp_ret rfl rfl ?_
    exact kf (by omega)
  · skip
    refine wp_go rfl rfl ?_
    refine wp_go rfl rfl ?_
    refine wp_ret rfl rfl ?_
    exact kt (by omega)
set_option maxRecDepth 100000 in
theorem c_isTrue45 {d : Nat} {h : hc_H} {Q : List hc_V → hc_H → Prop} {x y : Int} (hx : -1000000 ≤ x ∧ x ≤ 1000000) (hy : -1000000 ≤ y ∧ y ≤ 1000000) (kt : ¬ x = y → Q [xI 1] h) (kf : ¬ (¬ x = y) → Q [xI 0] h) : hc_wp d mX8_isTrue 0 [xI 45, xI x, xI y] [] h Q := by
  refine wp_go rfl rfl ?_
  refine wp_go rfl rfl ?_
  refine wp_go rfl rfl ?_
  refine wp_go rfl rfl ?_
  refine e_ceq rfl (fun c125 => ?_) (fun c125 => ?_)
  · skip
    refine wp_go rfl rfl ?_
    refine wp_ret rfl rfl ?_
    exact kf (by omega)
  · skip
    refine wp_go rfl rfl ?_
    refine wp_go rfl rfl ?_
    refine wp_ret rfl rfl ?_
    exact kt (by omega)
set_option maxRecDepth 100000 in
theorem c_isTrue20 {d : Nat} {h : hc_H} {Q : List hc_V → hc_H → Prop} {x y : Int} (hx : -1000000 ≤ x ∧ x ≤ 1000000) (hy : -1000000 ≤ y ∧ y ≤ 1000000) (kt : 0 < x + y → Q [xI 1] h) (kf : ¬ (0 < x + y) → Q [xI 0] h) : hc_wp d mX8_isTrue 0 [xI 20, xI x, xI y] [] h Q := by
  refine wp_go rfl rfl ?_
  refine wp_go rfl rfl ?_
  refine wp_go rfl rfl ?_
  refine wp_go rfl rfl ?_
  refine e_iadd rfl (by omega) ?_
  refine e_ifle rfl (fun c137 => ?_) (fun c137 => ?_)
  · skip
    refine wp_go rfl rfl ?_
    refine wp_ret rfl rfl ?_
    exact kf (by omega)
  · skip
    refine wp_go rfl rfl ?_
    refine wp_go rfl rfl ?_
    refine wp_ret rfl rfl ?_
    exact kt (by omega)
set_option maxRecDepth 100000 in
theorem c_isTrue21 {d : Nat} {h : hc_H} {Q : List hc_V → hc_H → Prop} {x y : Int} (hx : -1000000 ≤ x ∧ x ≤ 1000000) (hy : -1000000 ≤ y ∧ y ≤ 1000000) (kt : 1 < x + y → Q [xI 1] h) (kf : ¬ (1 < x + y) → Q [xI 0] h) : hc_wp d mX8_isTrue 0 [xI 21, xI x, xI y] [] h Q := by
  refine wp_go rfl rfl ?_
  refine wp_go rfl rfl ?_
  refine wp_go rfl rfl ?_
  refine wp_go rfl rfl ?_
  refine e_iadd rfl (by omega) ?_
  refine wp_go rfl rfl ?_
  refine e_cle rfl (fun c150 => ?_) (fun c150 => ?_)
  · skip
    refine wp_go rfl rfl ?_
    refine wp_ret rfl rfl ?_
    exact kf (by omega)
  · skip
    refine wp_go rfl rfl ?_
    refine wp_go rfl rfl ?_
    refine wp_ret rfl rfl ?_
    exact kt (by omega)
set_option maxRecDepth 100000 in
theorem c_work3 {d : Nat} {h : hc_H} {Q : List hc_V → hc_H → Prop} {ht nb : Int} {nm vs : Nat → Int} (H24 : h.2.2 24 = wk ht) (H25 : h.2.2 25 = ar 64 nm) (H26 : h.2.2 26 = ar 64 vs) (hh : 0 ≤ ht ∧ ht < 64) (k : Q [] (hc_wr (hc_wr h 26 (ar 64 (hc_u vs (Int.toNat ht) (clp nb)))) 24 (wk (ht + 1)))) : hc_wp (d + 1) mX8_work 0 [xR 24, xI 3, xI nb, none, none] [] h Q := by
  refine wp_go rfl rfl ?_
  refine wp_go rfl rfl ?_
  refine wp_go rfl rfl ?_
  refine wp_go rfl rfl ?_
  refine wp_go rfl rfl ?_
  refine wp_go rfl rfl ?_
  refine wp_cv rfl rfl rfl H24 rfl rfl rfl ?_
  refine c_push H24 H26 (by omega) ?_
  refine wp_go rfl rfl ?_
  refine wp_ret rfl rfl ?_
  exact k
set_option maxRecDepth 100000 in
theorem c_work4 {d : Nat} {h : hc_H} {Q : List hc_V → hc_H → Prop} {ht nb : Int} {nm vs : Nat → Int} (H24 : h.2.2 24 = wk ht) (H25 : h.2.2 25 = ar 64 nm) (H26 : h.2.2 26 = ar 64 vs) (hh : 0 ≤ ht ∧ ht < 64) (hn : 0 ≤ nb ∧ nb ≤ 63) (k : Q [] (hc_wr (hc_wr h 26 (ar 64 (hc_u vs (Int.toNat ht) (clp (nm (Int.toNat nb)))))) 24 (wk (ht + 1)))) : hc_wp (d + 1) mX8_work 0 [xR 24, xI 4, xI nb, none, none] [] h Q := by
  refine wp_go rfl rfl ?_
  refine wp_go rfl rfl ?_
  refine wp_go rfl rfl ?_
  refine wp_go rfl rfl ?_
  refine wp_go rfl rfl ?_
  refine wp_go rfl rfl ?_
  refine wp_go rfl rfl ?_
  refine wp_go rfl rfl ?_
  refine wp_go rfl rfl ?_
  refine wp_go rfl rfl ?_
  refine wp_call rfl rfl rfl rfl ?_
  refine c_isWithin  (fun q24 => ?_) (fun q24 => ?_)
  · skip
    refine wp_go rfl rfl ?_
    refine wp_go rfl rfl ?_
    refine e_get rfl H24 rfl rfl ?_
    refine wp_go rfl rfl ?_
    refine e_ald rfl H25 rfl (by omega) ?_
    refine wp_go rfl rfl ?_
    refine wp_go rfl rfl ?_
    refine wp_cv rfl rfl rfl H24 rfl rfl rfl ?_
    refine c_push H24 H26 (by omega) ?_
    refine wp_go rfl rfl ?_
    refine wp_ret rfl rfl ?_
    exact k
  · skip
    refine wp_go rfl rfl ?_
    refine e_lconst 0 rfl rfl ?_
    refine wp_cv rfl rfl rfl H24 rfl rfl rfl ?_
    refine c_push H24 H26 (by omega) ?_
    refine wp_go rfl rfl ?_
    refine wp_ret rfl rfl ?_
    exact absurd hn q24
set_option maxRecDepth 100000 in
theorem c_work5 {d : Nat} {h : hc_H} {Q : List hc_V → hc_H → Prop} {ht nb : Int} {nm vs : Nat → Int} (H24 : h.2.2 24 = wk ht) (H25 : h.2.2 25 = ar 64 nm) (H26 : h.2.2 26 = ar 64 vs) (hh : 0 < ht ∧ ht ≤ 64) (hv : ∀ j : Nat, j < Int.toNat ht → -1000000 ≤ vs j ∧ vs j ≤ 1000000) (k : ∀ y : Int, y = vs (Int.toNat (ht - 1)) → Q [] (hc_wr (hc_wr h 26 (ar 64 (hc_u vs (Int.toNat (ht - 1)) (clp (-y))))) 24 (wk ht))) : hc_wp (d + 1) mX8_work 0 [xR 24, xI 5, xI nb, none, none] [] h Q := by
  refine wp_go rfl rfl ?_
  refine wp_go rfl rfl ?_
  refine wp_go rfl rfl ?_
  refine wp_go rfl rfl ?_
  refine wp_go rfl rfl ?_
  refine wp_go rfl rfl ?_
  refine wp_go rfl rfl ?_
  refine wp_go rfl rfl ?_
  refine wp_go rfl rfl ?_
  refine wp_go rfl rfl ?_
  refine wp_go rfl rfl ?_
  refine wp_cv rfl rfl rfl H24 rfl rfl rfl ?_
  refine c_pop H24 H26 (by omega) ?_
  obtain ⟨y, hy⟩ : ∃ z : Int, z = vs (Int.toNat (ht - 1)) := ⟨_, rfl⟩
  rw [← hy]
  have by_ := hv (Int.toNat (ht - 1)) (by omega)
  rw [← hy] at by_
  refine e_ineg rfl (by omega) ?_
  refine wp_go rfl rfl ?_
  refine wp_cv rfl rfl rfl rfl rfl rfl rfl ?_
  refine c_push rfl H26 (by omega) ?_
  refine wp_go rfl rfl ?_
  refine wp_ret rfl rfl ?_
  rw [hw_sw (by decide)]
  simp only [hw_2]
  rw [show ht - 1 + 1 = ht by omega, hw_sw (by decide)]
  exact k y hy
set_option maxRecDepth 100000 in
theorem c_work22 {d : Nat} {h : hc_H} {Q : List hc_V → hc_H → Prop} {ht nb : Int} {nm vs : Nat → Int} (H24 : h.2.2 24 = wk ht) (H25 : h.2.2 25 = ar 64 nm) (H26 : h.2.2 26 = ar 64 vs) (hh : 0 < ht ∧ ht ≤ 64) (hv : ∀ j : Nat, j < Int.toNat ht → -1000000 ≤ vs j ∧ vs j ≤ 1000000) (k : ∀ y : Int, y = vs (Int.toNat (ht - 1)) → Q [] (hc_wr (hc_wr h 26 (ar 64 (hc_u vs (Int.toNat (ht - 1)) (clp (1 - y))))) 24 (wk ht))) : hc_wp (d + 1) mX8_work 0 [xR 24, xI 22, xI nb, none, none] [] h Q := by
  refine wp_go rfl rfl ?_
  refine wp_go rfl rfl ?_
  refine wp_go rfl rfl ?_
  refine wp_go rfl rfl ?_
  refine wp_go rfl rfl ?_
  refine wp_go rfl rfl ?_
  refine wp_go rfl rfl ?_
  refine wp_go rfl rfl ?_
  refine wp_go rfl rfl ?_
  refine wp_go rfl rfl ?_
  refine wp_go rfl rfl ?_
  refine wp_go rfl rfl ?_
  refine wp_go rfl rfl ?_
  refine wp_go rfl rfl ?_
  refine wp_go rfl rfl ?_
  refine wp_cv rfl rfl rfl H24 rfl rfl rfl ?_
  refine c_pop H24 H26 (by omega) ?_
  obtain ⟨y, hy⟩ : ∃ z : Int, z = vs (Int.toNat (ht - 1)) := ⟨_, rfl⟩
  rw [← hy]
  have by_ := hv (Int.toNat (ht - 1)) (by omega)
  rw [← hy] at by_
  refine e_isub rfl (by omega) ?_
  refine wp_go rfl rfl ?_
  refine wp_cv rfl rfl rfl rfl rfl rfl rfl ?_
  refine c_push rfl H26 (by omega) ?_
  refine wp_go rfl rfl ?_
  refine wp_ret rfl rfl ?_
  rw [hw_sw (by decide)]
  simp only [hw_2]
  rw [show ht - 1 + 1 = ht by omega, hw_sw (by decide)]
  exact k y hy
set_option maxRecDepth 100000 in
theorem c_work46 {d : Nat} {h : hc_H} {Q : List hc_V → hc_H → Prop} {ht nb : Int} {nm vs : Nat → Int} (H24 : h.2.2 24 = wk ht) (H25 : h.2.2 25 = ar 64 nm) (H26 : h.2.2 26 = ar 64 vs) (hh : 1 < ht ∧ ht ≤ 64) (hv : ∀ j : Nat, j < Int.toNat ht → -1000000 ≤ vs j ∧ vs j ≤ 1000000) (k : ∀ x y : Int, y = vs (Int.toNat (ht - 1)) → x = vs (Int.toNat (ht - 1 - 1)) → Q [] (hc_wr (hc_wr h 26 (ar 64 (hc_u vs (Int.toNat (ht - 1 - 1)) (clp (rk 46 x y))))) 24 (wk (ht - 1)))) : hc_wp (d + 1) mX8_work 0 [xR 24, xI 46, xI nb, none, none] [] h Q := by
  refine wp_go rfl rfl ?_
  refine wp_go rfl rfl ?_
  refine wp_go rfl rfl ?_
  refine wp_go rfl rfl ?_
  refine wp_go rfl rfl ?_
  refine wp_go rfl rfl ?_
  refine wp_go rfl rfl ?_
  refine wp_go rfl rfl ?_
  refine wp_go rfl rfl ?_
  refine wp_go rfl rfl ?_
  refine wp_go rfl rfl ?_
  refine wp_go rfl rfl ?_
  refine wp_go rfl rfl ?_
  refine wp_cv rfl rfl rfl H24 rfl rfl rfl ?_
  refine c_pop H24 H26 (by omega) ?_
  obtain ⟨y, hy⟩ : ∃ z : Int, z = vs (Int.toNat (ht - 1)) := ⟨_, rfl⟩
  rw [← hy]
  have by_ := hv (Int.toNat (ht - 1)) (by omega)
  rw [← hy] at by_
  refine e_istn (L' := [xR 24, xI 46, xI nb, xI y, none]) rfl rfl rfl ?_
  refine wp_go rfl rfl ?_
  refine wp_cv rfl rfl rfl rfl rfl rfl rfl ?_
  refine c_pop rfl H26 (by omega) ?_
  obtain ⟨x, hx⟩ : ∃ z : Int, z = vs (Int.toNat ((ht - 1) - 1)) := ⟨_, rfl⟩
  rw [← hx]
  have bx_ := hv (Int.toNat ((ht - 1) - 1)) (by omega)
  rw [← hx] at bx_
  refine e_ist (L' := [xR 24, xI 46, xI nb, xI y, xI x]) rfl rfl rfl ?_
  refine wp_go rfl rfl ?_
  refine wp_go rfl rfl ?_
  refine wp_go rfl rfl ?_
  refine wp_go rfl rfl ?_
  refine wp_call rfl rfl rfl rfl ?_
  refine c_isWithin (fun _ => ?_) (fun q => absurd (by decide) q)
  refine wp_go rfl rfl ?_
  refine wp_go rfl rfl ?_
  refine wp_go rfl rfl ?_
  refine wp_go rfl rfl ?_
  refine wp_go rfl rfl ?_
  refine wp_go rfl rfl ?_
  refine wp_call rfl rfl rfl rfl ?_
  refine c_reckon46 bx_ by_ ?_
  refine wp_go rfl rfl ?_
  refine wp_cv rfl rfl rfl rfl rfl rfl rfl ?_
  refine c_push rfl H26 (by omega) ?_
  refine wp_ret rfl rfl ?_
  simp only [hw_2]
  rw [hw_sw (by decide)]
  simp only [hw_2]
  rw [show ht - 1 - 1 + 1 = ht - 1 by omega, hw_sw (by decide)]
  exact k x y hy hx
set_option maxRecDepth 100000 in
theorem c_work47 {d : Nat} {h : hc_H} {Q : List hc_V → hc_H → Prop} {ht nb : Int} {nm vs : Nat → Int} (H24 : h.2.2 24 = wk ht) (H25 : h.2.2 25 = ar 64 nm) (H26 : h.2.2 26 = ar 64 vs) (hh : 1 < ht ∧ ht ≤ 64) (hv : ∀ j : Nat, j < Int.toNat ht → -1000000 ≤ vs j ∧ vs j ≤ 1000000) (k : ∀ x y : Int, y = vs (Int.toNat (ht - 1)) → x = vs (Int.toNat (ht - 1 - 1)) → Q [] (hc_wr (hc_wr h 26 (ar 64 (hc_u vs (Int.toNat (ht - 1 - 1)) (clp (rk 47 x y))))) 24 (wk (ht - 1)))) : hc_wp (d + 1) mX8_work 0 [xR 24, xI 47, xI nb, none, none] [] h Q := by
  refine wp_go rfl rfl ?_
  refine wp_go rfl rfl ?_
  refine wp_go rfl rfl ?_
  refine wp_go rfl rfl ?_
  refine wp_go rfl rfl ?_
  refine wp_go rfl rfl ?_
  refine wp_go rfl rfl ?_
  refine wp_go rfl rfl ?_
  refine wp_go rfl rfl ?_
  refine wp_go rfl rfl ?_
  refine wp_go rfl rfl ?_
  refine wp_go rfl rfl ?_
  refine wp_go rfl rfl ?_
  refine wp_cv rfl rfl rfl H24 rfl rfl rfl ?_
  refine c_pop H24 H26 (by omega) ?_
  obtain ⟨y, hy⟩ : ∃ z : Int, z = vs (Int.toNat (ht - 1)) := ⟨_, rfl⟩
  rw [← hy]
  have by_ := hv (Int.toNat (ht - 1)) (by omega)
  rw [← hy] at by_
  refine e_istn (L' := [xR 24, xI 47, xI nb, xI y, none]) rfl rfl rfl ?_
  refine wp_go rfl rfl ?_
  refine wp_cv rfl rfl rfl rfl rfl rfl rfl ?_
  refine c_pop rfl H26 (by omega) ?_
  obtain ⟨x, hx⟩ : ∃ z : Int, z = vs (Int.toNat ((ht - 1) - 1)) := ⟨_, rfl⟩
  rw [← hx]
  have bx_ := hv (Int.toNat ((ht - 1) - 1)) (by omega)
  rw [← hx] at bx_
  refine e_ist (L' := [xR 24, xI 47, xI nb, xI y, xI x]) rfl rfl rfl ?_
  refine wp_go rfl rfl ?_
  refine wp_go rfl rfl ?_
  refine wp_go rfl rfl ?_
  refine wp_go rfl rfl ?_
  refine wp_call rfl rfl rfl rfl ?_
  refine c_isWithin (fun _ => ?_) (fun q => absurd (by decide) q)
  refine wp_go rfl rfl ?_
  refine wp_go rfl rfl ?_
  refine wp_go rfl rfl ?_
  refine wp_go rfl rfl ?_
  refine wp_go rfl rfl ?_
  refine wp_go rfl rfl ?_
  refine wp_call rfl rfl rfl rfl ?_
  refine c_reckon47 bx_ by_ ?_
  refine wp_go rfl rfl ?_
  refine wp_cv rfl rfl rfl rfl rfl rfl rfl ?_
  refine c_push rfl H26 (by omega) ?_
  refine wp_ret rfl rfl ?_
  simp only [hw_2]
  rw [hw_sw (by decide)]
  simp only [hw_2]
  rw [show ht - 1 - 1 + 1 = ht - 1 by omega, hw_sw (by decide)]
  exact k x y hy hx
set_option maxRecDepth 100000 in
theorem c_work48 {d : Nat} {h : hc_H} {Q : List hc_V → hc_H → Prop} {ht nb : Int} {nm vs : Nat → Int} (H24 : h.2.2 24 = wk ht) (H25 : h.2.2 25 = ar 64 nm) (H26 : h.2.2 26 = ar 64 vs) (hh : 1 < ht ∧ ht ≤ 64) (hv : ∀ j : Nat, j < Int.toNat ht → -1000000 ≤ vs j ∧ vs j ≤ 1000000) (k : ∀ x y : Int, y = vs (Int.toNat (ht - 1)) → x = vs (Int.toNat (ht - 1 - 1)) → Q [] (hc_wr (hc_wr h 26 (ar 64 (hc_u vs (Int.toNat (ht - 1 - 1)) (clp (rk 48 x y))))) 24 (wk (ht - 1)))) : hc_wp (d + 1) mX8_work 0 [xR 24, xI 48, xI nb, none, none] [] h Q := by
  refine wp_go rfl rfl ?_
  refine wp_go rfl rfl ?_
  refine wp_go rfl rfl ?_
  refine wp_go rfl rfl ?_
  refine wp_go rfl rfl ?_
  refine wp_go rfl rfl ?_
  refine wp_go rfl rfl ?_
  refine wp_go rfl rfl ?_
  refine wp_go rfl rfl ?_
  refine wp_go rfl rfl ?_
  refine wp_go rfl rfl ?_
  refine wp_go rfl rfl ?_
  refine wp_go rfl rfl ?_
  refine wp_cv rfl rfl rfl H24 rfl rfl rfl ?_
  refine c_pop H24 H26 (by omega) ?_
  obtain ⟨y, hy⟩ : ∃ z : Int, z = vs (Int.toNat (ht - 1)) := ⟨_, rfl⟩
  rw [← hy]
  have by_ := hv (Int.toNat (ht - 1)) (by omega)
  rw [← hy] at by_
  refine e_istn (L' := [xR 24, xI 48, xI nb, xI y, none]) rfl rfl rfl ?_
  refine wp_go rfl rfl ?_
  refine wp_cv rfl rfl rfl rfl rfl rfl rfl ?_
  refine c_pop rfl H26 (by omega) ?_
  obtain ⟨x, hx⟩ : ∃ z : Int, z = vs (Int.toNat ((ht - 1) - 1)) := ⟨_, rfl⟩
  rw [← hx]
  have bx_ := hv (Int.toNat ((ht - 1) - 1)) (by omega)
  rw [← hx] at bx_
  refine e_ist (L' := [xR 24, xI 48, xI nb, xI y, xI x]) rfl rfl rfl ?_
  refine wp_go rfl rfl ?_
  refine wp_go rfl rfl ?_
  refine wp_go rfl rfl ?_
  refine wp_go rfl rfl ?_
  refine wp_call rfl rfl rfl rfl ?_
  refine c_isWithin (fun _ => ?_) (fun q => absurd (by decide) q)
  refine wp_go rfl rfl ?_
  refine wp_go rfl rfl ?_
  refine wp_go rfl rfl ?_
  refine wp_go rfl rfl ?_
  refine wp_go rfl rfl ?_
  refine wp_go rfl rfl ?_
  refine wp_call rfl rfl rfl rfl ?_
  refine c_reckon48 bx_ by_ ?_
  refine wp_go rfl rfl ?_
  refine wp_cv rfl rfl rfl rfl rfl rfl rfl ?_
  refine c_push rfl H26 (by omega) ?_
  refine wp_ret rfl rfl ?_
  simp only [hw_2]
  rw [hw_sw (by decide)]
  simp only [hw_2]
  rw [show ht - 1 - 1 + 1 = ht - 1 by omega, hw_sw (by decide)]
  exact k x y hy hx
set_option maxRecDepth 100000 in
theorem c_work49 {d : Nat} {h : hc_H} {Q : List hc_V → hc_H → Prop} {ht nb : Int} {nm vs : Nat → Int} (H24 : h.2.2 24 = wk ht) (H25 : h.2.2 25 = ar 64 nm) (H26 : h.2.2 26 = ar 64 vs) (hh : 1 < ht ∧ ht ≤ 64) (hv : ∀ j : Nat, j < Int.toNat ht → -1000000 ≤ vs j ∧ vs j ≤ 1000000) (k : ∀ x y : Int, y = vs (Int.toNat (ht - 1)) → x = vs (Int.toNat (ht - 1 - 1)) → Q [] (hc_wr (hc_wr h 26 (ar 64 (hc_u vs (Int.toNat (ht - 1 - 1)) (clp (rk 49 x y))))) 24 (wk (ht - 1)))) : hc_wp (d + 1) mX8_work 0 [xR 24, xI 49, xI nb, none, none] [] h Q := by
  refine wp_go rfl rfl ?_
  refine wp_go rfl rfl ?_
  refine wp_go rfl rfl ?_
  refine wp_go rfl rfl ?_
  refine wp_go rfl rfl ?_
  refine wp_go rfl rfl ?_
  refine wp_go rfl rfl ?_
  refine wp_go rfl rfl ?_
  refine wp_go rfl rfl ?_
  refine wp_go rfl rfl ?_
  refine wp_go rfl rfl ?_
  refine wp_go rfl rfl ?_
  refine wp_go rfl rfl ?_
  refine wp_cv rfl rfl rfl H24 rfl rfl rfl ?_
  refine c_pop H24 H26 (by omega) ?_
  obtain ⟨y, hy⟩ : ∃ z : Int, z = vs (Int.toNat (ht - 1)) := ⟨_, rfl⟩
  rw [← hy]
  have by_ := hv (Int.toNat (ht - 1)) (by omega)
  rw [← hy] at by_
  refine e_istn (L' := [xR 24, xI 49, xI nb, xI y, none]) rfl rfl rfl ?_
  refine wp_go rfl rfl ?_
  refine wp_cv rfl rfl rfl rfl rfl rfl rfl ?_
  refine c_pop rfl H26 (by omega) ?_
  obtain ⟨x, hx⟩ : ∃ z : Int, z = vs (Int.toNat ((ht - 1) - 1)) := ⟨_, rfl⟩
  rw [← hx]
  have bx_ := hv (Int.toNat ((ht - 1) - 1)) (by omega)
  rw [← hx] at bx_
  refine e_ist (L' := [xR 24, xI 49, xI nb, xI y, xI x]) rfl rfl rfl ?_
  refine wp_go rfl rfl ?_
  refine wp_go rfl rfl ?_
  refine wp_go rfl rfl ?_
  refine wp_go rfl rfl ?_
  refine wp_call rfl rfl rfl rfl ?_
  refine c_isWithin (fun _ => ?_) (fun q => absurd (by decide) q)
  refine wp_go rfl rfl ?_
  refine wp_go rfl rfl ?_
  refine wp_go rfl rfl ?_
  refine wp_go rfl rfl ?_
  refine wp_go rfl rfl ?_
  refine wp_go rfl rfl ?_
  refine wp_call rfl rfl rfl rfl ?_
  refine c_reckon49 bx_ by_ ?_
  refine wp_go rfl rfl ?_
  refine wp_cv rfl rfl rfl rfl rfl rfl rfl ?_
  refine c_push rfl H26 (by omega) ?_
  refine wp_ret rfl rfl ?_
  simp only [hw_2]
  rw [hw_sw (by decide)]
  simp only [hw_2]
  rw [show ht - 1 - 1 + 1 = ht - 1 by omega, hw_sw (by decide)]
  exact k x y hy hx
set_option maxRecDepth 100000 in
theorem c_work40 {d : Nat} {h : hc_H} {Q : List hc_V → hc_H → Prop} {ht nb : Int} {nm vs : Nat → Int} (H24 : h.2.2 24 = wk ht) (H25 : h.2.2 25 = ar 64 nm) (H26 : h.2.2 26 = ar 64 vs) (hh : 1 < ht ∧ ht ≤ 64) (hv : ∀ j : Nat, j < Int.toNat ht → -1000000 ≤ vs j ∧ vs j ≤ 1000000) (k : ∀ x y : Int, y = vs (Int.toNat (ht - 1)) → x = vs (Int.toNat (ht - 1 - 1)) → Q [] (hc_wr (hc_wr h 26 (ar 64 (hc_u vs (Int.toNat (ht - 1 - 1)) (clp (if x < y then 1 else 0))))) 24 (wk (ht - 1)))) : hc_wp (d + 1) mX8_work 0 [xR 24, xI 40, xI nb, none, none] [] h Q := by
  refine wp_go rfl rfl ?_
  refine wp_go rfl rfl ?_
  refine wp_go rfl rfl ?_
  refine wp_go rfl rfl ?_
  refine wp_go rfl rfl ?_
  refine wp_go rfl rfl ?_
  refine wp_go rfl rfl ?_
  refine wp_go rfl rfl ?_
  refine wp_go rfl rfl ?_
  refine wp_go rfl rfl ?_
  refine wp_go rfl rfl ?_
  refine wp_go rfl rfl ?_
  refine wp_go rfl rfl ?_
  refine wp_cv rfl rfl rfl H24 rfl rfl rfl ?_
  refine c_pop H24 H26 (by omega) ?_
  obtain ⟨y, hy⟩ : ∃ z : Int, z = vs (Int.toNat (ht - 1)) := ⟨_, rfl⟩
  rw [← hy]
  have by_ := hv (Int.toNat (ht - 1)) (by omega)
  rw [← hy] at by_
  refine e_istn (L' := [xR 24, xI 40, xI nb, xI y, none]) rfl rfl rfl ?_
  refine wp_go rfl rfl ?_
  refine wp_cv rfl rfl rfl rfl rfl rfl rfl ?_
  refine c_pop rfl H26 (by omega) ?_
  obtain ⟨x, hx⟩ : ∃ z : Int, z = vs (Int.toNat ((ht - 1) - 1)) := ⟨_, rfl⟩
  rw [← hx]
  have bx_ := hv (Int.toNat ((ht - 1) - 1)) (by omega)
  rw [← hx] at bx_
  refine e_ist (L' := [xR 24, xI 40, xI nb, xI y, xI x]) rfl rfl rfl ?_
  refine wp_go rfl rfl ?_
  refine wp_go rfl rfl ?_
  refine wp_go rfl rfl ?_
  refine wp_go rfl rfl ?_
  refine wp_call rfl rfl rfl rfl ?_
  refine c_isWithin (fun q => absurd q (by decide)) (fun _ => ?_)
  refine wp_go rfl rfl ?_
  refine wp_go rfl rfl ?_
  refine wp_go rfl rfl ?_
  refine wp_go rfl rfl ?_
  refine wp_call rfl rfl rfl rfl ?_
  refine c_isTrue40 bx_ by_ (fun q => ?_) (fun q => ?_)
  · skip
    refine wp_go rfl rfl ?_
    refine e_lconst 1 rfl rfl ?_
    refine wp_go rfl rfl ?_
    refine wp_cv rfl rfl rfl rfl rfl rfl rfl ?_
    refine c_push rfl H26 (by omega) ?_
    refine wp_ret rfl rfl ?_
    simp only [hw_2]
    rw [hw_sw (by decide)]
    simp only [hw_2]
    rw [show ht - 1 - 1 + 1 = ht - 1 by omega, hw_sw (by decide)]
    have kk := k x y hy hx
    rw [if_pos q] at kk
    exact kk
  · skip
    refine wp_go rfl rfl ?_
    refine e_lconst 0 rfl rfl ?_
    refine wp_cv rfl rfl rfl rfl rfl rfl rfl ?_
    refine c_push rfl H26 (by omega) ?_
    refine wp_ret rfl rfl ?_
    simp only [hw_2]
    rw [hw_sw (by decide)]
    simp only [hw_2]
    rw [show ht - 1 - 1 + 1 = ht - 1 by omega, hw_sw (by decide)]
    have kk := k x y hy hx
    rw [if_neg q] at kk
    exact kk
set_option maxRecDepth 100000 in
theorem c_work41 {d : Nat} {h : hc_H} {Q : List hc_V → hc_H → Prop} {ht nb : Int} {nm vs : Nat → Int} (H24 : h.2.2 24 = wk ht) (H25 : h.2.2 25 = ar 64 nm) (H26 : h.2.2 26 = ar 64 vs) (hh : 1 < ht ∧ ht ≤ 64) (hv : ∀ j : Nat, j < Int.toNat ht → -1000000 ≤ vs j ∧ vs j ≤ 1000000) (k : ∀ x y : Int, y = vs (Int.toNat (ht - 1)) → x = vs (Int.toNat (ht - 1 - 1)) → Q [] (hc_wr (hc_wr h 26 (ar 64 (hc_u vs (Int.toNat (ht - 1 - 1)) (clp (if x ≤ y then 1 else 0))))) 24 (wk (ht - 1)))) : hc_wp (d + 1) mX8_work 0 [xR 24, xI 41, xI nb, none, none] [] h Q := by
  refine wp_go rfl rfl ?_
  refine wp_go rfl rfl ?_
  refine wp_go rfl rfl ?_
  refine wp_go rfl rfl ?_
  refine wp_go rfl rfl ?_
  refine wp_go rfl rfl ?_
  refine wp_go rfl rfl ?_
  refine wp_go rfl rfl ?_
  refine wp_go rfl rfl ?_
  refine wp_go rfl rfl ?_
  refine wp_go rfl rfl ?_
  refine wp_go rfl rfl ?_
  refine wp_go rfl rfl ?_
  refine wp_cv rfl rfl rfl H24 rfl rfl rfl ?_
  refine c_pop H24 H26 (by omega) ?_
  obtain ⟨y, hy⟩ : ∃ z : Int, z = vs (Int.toNat (ht - 1)) := ⟨_, rfl⟩
  rw [← hy]
  have by_ := hv (Int.toNat (ht - 1)) (by omega)
  rw [← hy] at by_
  refine e_istn (L' := [xR 24, xI 41, xI nb, xI y, none]) rfl rfl rfl ?_
  refine wp_go rfl rfl ?_
  refine wp_cv rfl rfl rfl rfl rfl rfl rfl ?_
  refine c_pop rfl H26 (by omega) ?_
  obtain ⟨x, hx⟩ : ∃ z : Int, z = vs (Int.toNat ((ht - 1) - 1)) := ⟨_, rfl⟩
  rw [← hx]
  have bx_ := hv (Int.toNat ((ht - 1) - 1)) (by omega)
  rw [← hx] at bx_
  refine e_ist (L' := [xR 24, xI 41, xI nb, xI y, xI x]) rfl rfl rfl ?_
  refine wp_go rfl rfl ?_
  refine wp_go rfl rfl ?_
  refine wp_go rfl rfl ?_
  refine wp_go rfl rfl ?_
  refine wp_call rfl rfl rfl rfl ?_
  refine c_isWithin (fun q => absurd q (by decide)) (fun _ => ?_)
  refine wp_go rfl rfl ?_
  refine wp_go rfl rfl ?_
  refine wp_go rfl rfl ?_
  refine wp_go rfl rfl ?_
  refine wp_call rfl rfl rfl rfl ?_
  refine c_isTrue41 bx_ by_ (fun q => ?_) (fun q => ?_)
  · skip
    refine wp_go rfl rfl ?_
    refine e_lconst 1 rfl rfl ?_
    refine wp_go rfl rfl ?_
    refine wp_cv rfl rfl rfl rfl rfl rfl rfl ?_
    refine c_push rfl H26 (by omega) ?_
    refine wp_ret rfl rfl ?_
    simp only [hw_2]
    rw [hw_sw (by decide)]
    simp only [hw_2]
    rw [show ht - 1 - 1 + 1 = ht - 1 by omega, hw_sw (by decide)]
    have kk := k x y hy hx
    rw [if_pos q] at kk
    exact kk
  · skip
    refine wp_go rfl rfl ?_
    refine e_lconst 0 rfl rfl ?_
    refine wp_cv rfl rfl rfl rfl rfl rfl rfl ?_
    refine c_push rfl H26 (by omega) ?_
    refine wp_ret rfl rfl ?_
    simp only [hw_2]
    rw [hw_sw (by decide)]
    simp only [hw_2]
    rw [show ht - 1 - 1 + 1 = ht - 1 by omega, hw_sw (by decide)]
    have kk := k x y hy hx
    rw [if_neg q] at kk
    exact kk
set_option maxRecDepth 100000 in
theorem c_work42 {d : Nat} {h : hc_H} {Q : List hc_V → hc_H → Prop} {ht nb : Int} {nm vs : Nat → Int} (H24 : h.2.2 24 = wk ht) (H25 : h.2.2 25 = ar 64 nm) (H26 : h.2.2 26 = ar 64 vs) (hh : 1 < ht ∧ ht ≤ 64) (hv : ∀ j : Nat, j < Int.toNat ht → -1000000 ≤ vs j ∧ vs j ≤ 1000000) (k : ∀ x y : Int, y = vs (Int.toNat (ht - 1)) → x = vs (Int.toNat (ht - 1 - 1)) → Q [] (hc_wr (hc_wr h 26 (ar 64 (hc_u vs (Int.toNat (ht - 1 - 1)) (clp (if y < x then 1 else 0))))) 24 (wk (ht - 1)))) : hc_wp (d + 1) mX8_work 0 [xR 24, xI 42, xI nb, none, none] [] h Q := by
  refine wp_go rfl rfl ?_
  refine wp_go rfl rfl ?_
  refine wp_go rfl rfl ?_
  refine wp_go rfl rfl ?_
  refine wp_go rfl rfl ?_
  refine wp_go rfl rfl ?_
  refine wp_go rfl rfl ?_
  refine wp_go rfl rfl ?_
  refine wp_go rfl rfl ?_
  refine wp_go rfl rfl ?_
  refine wp_go rfl rfl ?_
  refine wp_go rfl rfl ?_
  refine wp_go rfl rfl ?_
  refine wp_cv rfl rfl rfl H24 rfl rfl rfl ?_
  refine c_pop H24 H26 (by omega) ?_
  obtain ⟨y, hy⟩ : ∃ z : Int, z = vs (Int.toNat (ht - 1)) := ⟨_, rfl⟩
  rw [← hy]
  have by_ := hv (Int.toNat (ht - 1)) (by omega)
  rw [← hy] at by_
  refine e_istn (L' := [xR 24, xI 42, xI nb, xI y, none]) rfl rfl rfl ?_
  refine wp_go rfl rfl ?_
  refine wp_cv rfl rfl rfl rfl rfl rfl rfl ?_
  refine c_pop rfl H26 (by omega) ?_
  obtain ⟨x, hx⟩ : ∃ z : Int, z = vs (Int.toNat ((ht - 1) - 1)) := ⟨_, rfl⟩
  rw [← hx]
  have bx_ := hv (Int.toNat ((ht - 1) - 1)) (by omega)
  rw [← hx] at bx_
  refine e_ist (L' := [xR 24, xI 42, xI nb, xI y, xI x]) rfl rfl rfl ?_
  refine wp_go rfl rfl ?_
  refine wp_go rfl rfl ?_
  refine wp_go rfl rfl ?_
  refine wp_go rfl rfl ?_
  refine wp_call rfl rfl rfl rfl ?_
  refine c_isWithin (fun q => absurd q (by decide)) (fun _ => ?_)
  refine wp_go rfl rfl ?_
  refine wp_go rfl rfl ?_
  refine wp_go rfl rfl ?_
  refine wp_go rfl rfl ?_
  refine wp_call rfl rfl rfl rfl ?_
  refine c_isTrue42 bx_ by_ (fun q => ?_) (fun q => ?_)
  · skip
    refine wp_go rfl rfl ?_
    refine e_lconst 1 rfl rfl ?_
    refine wp_go rfl rfl ?_
    refine wp_cv rfl rfl rfl rfl rfl rfl rfl ?_
    refine c_push rfl H26 (by omega) ?_
    refine wp_ret rfl rfl ?_
    simp only [hw_2]
    rw [hw_sw (by decide)]
    simp only [hw_2]
    rw [show ht - 1 - 1 + 1 = ht - 1 by omega, hw_sw (by decide)]
    have kk := k x y hy hx
    rw [if_pos q] at kk
    exact kk
  · skip
    refine wp_go rfl rfl ?_
    refine e_lconst 0 rfl rfl ?_
    refine wp_cv rfl rfl rfl rfl rfl rfl rfl ?_
    refine c_push rfl H26 (by omega) ?_
    refine wp_ret rfl rfl ?_
    simp only [hw_2]
    rw [hw_sw (by decide)]
    simp only [hw_2]
    rw [show ht - 1 - 1 + 1 = ht - 1 by omega, hw_sw (by decide)]
    have kk := k x y hy hx
    rw [if_neg q] at kk
    exact kk
set_option maxRecDepth 100000 in
theorem c_work43 {d : Nat} {h : hc_H} {Q : List hc_V → hc_H → Prop} {ht nb : Int} {nm vs : Nat → Int} (H24 : h.2.2 24 = wk ht) (H25 : h.2.2 25 = ar 64 nm) (H26 : h.2.2 26 = ar 64 vs) (hh : 1 < ht ∧ ht ≤ 64) (hv : ∀ j : Nat, j < Int.toNat ht → -1000000 ≤ vs j ∧ vs j ≤ 1000000) (k : ∀ x y : Int, y = vs (Int.toNat (ht - 1)) → x = vs (Int.toNat (ht - 1 - 1)) → Q [] (hc_wr (hc_wr h 26 (ar 64 (hc_u vs (Int.toNat (ht - 1 - 1)) (clp (if y ≤ x then 1 else 0))))) 24 (wk (ht - 1)))) : hc_wp (d + 1) mX8_work 0 [xR 24, xI 43, xI nb, none, none] [] h Q := by
  refine wp_go rfl rfl ?_
  refine wp_go rfl rfl ?_
  refine wp_go rfl rfl ?_
  refine wp_go rfl rfl ?_
  refine wp_go rfl rfl ?_
  refine wp_go rfl rfl ?_
  refine wp_go rfl rfl ?_
  refine wp_go rfl rfl ?_
  refine wp_go rfl rfl ?_
  refine wp_go rfl rfl ?_
  refine wp_go rfl rfl ?_
  refine wp_go rfl rfl ?_
  refine wp_go rfl rfl ?_
  refine wp_cv rfl rfl rfl H24 rfl rfl rfl ?_
  refine c_pop H24 H26 (by omega) ?_
  obtain ⟨y, hy⟩ : ∃ z : Int, z = vs (Int.toNat (ht - 1)) := ⟨_, rfl⟩
  rw [← hy]
  have by_ := hv (Int.toNat (ht - 1)) (by omega)
  rw [← hy] at by_
  refine e_istn (L' := [xR 24, xI 43, xI nb, xI y, none]) rfl rfl rfl ?_
  refine wp_go rfl rfl ?_
  refine wp_cv rfl rfl rfl rfl rfl rfl rfl ?_
  refine c_pop rfl H26 (by omega) ?_
  obtain ⟨x, hx⟩ : ∃ z : Int, z = vs (Int.toNat ((ht - 1) - 1)) := ⟨_, rfl⟩
  rw [← hx]
  have bx_ := hv (Int.toNat ((ht - 1) - 1)) (by omega)
  rw [← hx] at bx_
  refine e_ist (L' := [xR 24, xI 43, xI nb, xI y, xI x]) rfl rfl rfl ?_
  refine wp_go rfl rfl ?_
  refine wp_go rfl rfl ?_
  refine wp_go rfl rfl ?_
  refine wp_go rfl rfl ?_
  refine wp_call rfl rfl rfl rfl ?_
  refine c_isWithin (fun q => absurd q (by decide)) (fun _ => ?_)
  refine wp_go rfl rfl ?_
  refine wp_go rfl rfl ?_
  refine wp_go rfl rfl ?_
  refine wp_go rfl rfl ?_
  refine wp_call rfl rfl rfl rfl ?_
  refine c_isTrue43 bx_ by_ (fun q => ?_) (fun q => ?_)
  · skip
    refine wp_go rfl rfl ?_
    refine e_lconst 1 rfl rfl ?_
    refine wp_go rfl rfl ?_
    refine wp_cv rfl rfl rfl rfl rfl rfl rfl ?_
    refine c_push rfl H26 (by omega) ?_
    refine wp_ret rfl rfl ?_
    simp only [hw_2]
    rw [hw_sw (by decide)]
    simp only [hw_2]
    rw [show ht - 1 - 1 + 1 = ht - 1 by omega, hw_sw (by decide)]
    have kk := k x y hy hx
    rw [if_pos q] at kk
    exact kk
  · skip
    refine wp_go rfl rfl ?_
    refine e_lconst 0 rfl rfl ?_
    refine wp_cv rfl rfl rfl rfl rfl rfl rfl ?_
    refine c_push rfl H26 (by omega) ?_
    refine wp_ret rfl rfl ?_
    simp only [hw_2]
    rw [hw_sw (by decide)]
    simp only [hw_2]
    rw [show ht - 1 - 1 + 1 = ht - 1 by omega, hw_sw (by decide)]
    have kk := k x y hy hx
    rw [if_neg q] at kk
    exact kk
set_option maxRecDepth 100000 in
theorem c_work44 {d : Nat} {h : hc_H} {Q : List hc_V → hc_H → Prop} {ht nb : Int} {nm vs : Nat → Int} (H24 : h.2.2 24 = wk ht) (H25 : h.2.2 25 = ar 64 nm) (H26 : h.2.2 26 = ar 64 vs) (hh : 1 < ht ∧ ht ≤ 64) (hv : ∀ j : Nat, j < Int.toNat ht → -1000000 ≤ vs j ∧ vs j ≤ 1000000) (k : ∀ x y : Int, y = vs (Int.toNat (ht - 1)) → x = vs (Int.toNat (ht - 1 - 1)) → Q [] (hc_wr (hc_wr h 26 (ar 64 (hc_u vs (Int.toNat (ht - 1 - 1)) (clp (if x = y then 1 else 0))))) 24 (wk (ht - 1)))) : hc_wp (d + 1) mX8_work 0 [xR 24, xI 44, xI nb, none, none] [] h Q := by
  refine wp_go rfl rfl ?_
  refine wp_go rfl rfl ?_
  refine wp_go rfl rfl ?_
  refine wp_go rfl rfl ?_
  refine wp_go rfl rfl ?_
  refine wp_go rfl rfl ?_
  refine wp_go rfl rfl ?_
  refine wp_go rfl rfl ?_
  refine wp_go rfl rfl ?_
  refine wp_go rfl rfl ?_
  refine wp_go rfl rfl ?_
  refine wp_go rfl rfl ?_
  refine wp_go rfl rfl ?_
  refine wp_cv rfl rfl rfl H24 rfl rfl rfl ?_
  refine c_pop H24 H26 (by omega) ?_
  obtain ⟨y, hy⟩ : ∃ z : Int, z = vs (Int.toNat (ht - 1)) := ⟨_, rfl⟩
  rw [← hy]
  have by_ := hv (Int.toNat (ht - 1)) (by omega)
  rw [← hy] at by_
  refine e_istn (L' := [xR 24, xI 44, xI nb, xI y, none]) rfl rfl rfl ?_
  refine wp_go rfl rfl ?_
  refine wp_cv rfl rfl rfl rfl rfl rfl rfl ?_
  refine c_pop rfl H26 (by omega) ?_
  obtain ⟨x, hx⟩ : ∃ z : Int, z = vs (Int.toNat ((ht - 1) - 1)) := ⟨_, rfl⟩
  rw [← hx]
  have bx_ := hv (Int.toNat ((ht - 1) - 1)) (by omega)
  rw [← hx] at bx_
  refine e_ist (L' := [xR 24, xI 44, xI nb, xI y, xI x]) rfl rfl rfl ?_
  refine wp_go rfl rfl ?_
  refine wp_go rfl rfl ?_
  refine wp_go rfl rfl ?_
  refine wp_go rfl rfl ?_
  refine wp_call rfl rfl rfl rfl ?_
  refine c_isWithin (fun q => absurd q (by decide)) (fun _ => ?_)
  refine wp_go rfl rfl ?_
  refine wp_go rfl rfl ?_
  refine wp_go rfl rfl ?_
  refine wp_go rfl rfl ?_
  refine wp_call rfl rfl rfl rfl ?_
  refine c_isTrue44 bx_ by_ (fun q => ?_) (fun q => ?_)
  · skip
    refine wp_go rfl rfl ?_
    refine e_lconst 1 rfl rfl ?_
    refine wp_go rfl rfl ?_
    refine wp_cv rfl rfl rfl rfl rfl rfl rfl ?_
    refine c_push rfl H26 (by omega) ?_
    refine wp_ret rfl rfl ?_
    simp only [hw_2]
    rw [hw_sw (by decide)]
    simp only [hw_2]
    rw [show ht - 1 - 1 + 1 = ht - 1 by omega, hw_sw (by decide)]
    have kk := k x y hy hx
    rw [if_pos q] at kk
    exact kk
  · skip
    refine wp_go rfl rfl ?_
    refine e_lconst 0 rfl rfl ?_
    refine wp_cv rfl rfl rfl rfl rfl rfl rfl ?_
    refine c_push rfl H26 (by omega) ?_
    refine wp_ret rfl rfl ?_
    simp only [hw_2]
    rw [hw_sw (by decide)]
    simp only [hw_2]
    rw [show ht - 1 - 1 + 1 = ht - 1 by omega, hw_sw (by decide)]
    have kk := k x y hy hx
    rw [if_neg q] at kk
    exact kk
set_option maxRecDepth 100000 in
theorem c_work45 {d : Nat} {h : hc_H} {Q : List hc_V → hc_H → Prop} {ht nb : Int} {nm vs : Nat → Int} (H24 : h.2.2 24 = wk ht) (H25 : h.2.2 25 = ar 64 nm) (H26 : h.2.2 26 = ar 64 vs) (hh : 1 < ht ∧ ht ≤ 64) (hv : ∀ j : Nat, j < Int.toNat ht → -1000000 ≤ vs j ∧ vs j ≤ 1000000) (k : ∀ x y : Int, y = vs (Int.toNat (ht - 1)) → x = vs (Int.toNat (ht - 1 - 1)) → Q [] (hc_wr (hc_wr h 26 (ar 64 (hc_u vs (Int.toNat (ht - 1 - 1)) (clp (if ¬ x = y then 1 else 0))))) 24 (wk (ht - 1)))) : hc_wp (d + 1) mX8_work 0 [xR 24, xI 45, xI nb, none, none] [] h Q := by
  refine wp_go rfl rfl ?_
  refine wp_go rfl rfl ?_
  refine wp_go rfl rfl ?_
  refine wp_go rfl rfl ?_
  refine wp_go rfl rfl ?_
  refine wp_go rfl rfl ?_
  refine wp_go rfl rfl ?_
  refine wp_go rfl rfl ?_
  refine wp_go rfl rfl ?_
  refine wp_go rfl rfl ?_
  refine wp_go rfl rfl ?_
  refine wp_go rfl rfl ?_
  refine wp_go rfl rfl ?_
  refine wp_cv rfl rfl rfl H24 rfl rfl rfl ?_
  refine c_pop H24 H26 (by omega) ?_
  obtain ⟨y, hy⟩ : ∃ z : Int, z = vs (Int.toNat (ht - 1)) := ⟨_, rfl⟩
  rw [← hy]
  have by_ := hv (Int.toNat (ht - 1)) (by omega)
  rw [← hy] at by_
  refine e_istn (L' := [xR 24, xI 45, xI nb, xI y, none]) rfl rfl rfl ?_
  refine wp_go rfl rfl ?_
  refine wp_cv rfl rfl rfl rfl rfl rfl rfl ?_
  refine c_pop rfl H26 (by omega) ?_
  obtain ⟨x, hx⟩ : ∃ z : Int, z = vs (Int.toNat ((ht - 1) - 1)) := ⟨_, rfl⟩
  rw [← hx]
  have bx_ := hv (Int.toNat ((ht - 1) - 1)) (by omega)
  rw [← hx] at bx_
  refine e_ist (L' := [xR 24, xI 45, xI nb, xI y, xI x]) rfl rfl rfl ?_
  refine wp_go rfl rfl ?_
  refine wp_go rfl rfl ?_
  refine wp_go rfl rfl ?_
  refine wp_go rfl rfl ?_
  refine wp_call rfl rfl rfl rfl ?_
  refine c_isWithin (fun q => absurd q (by decide)) (fun _ => ?_)
  refine wp_go rfl rfl ?_
  refine wp_go rfl rfl ?_
  refine wp_go rfl rfl ?_
  refine wp_go rfl rfl ?_
  refine wp_call rfl rfl rfl rfl ?_
  refine c_isTrue45 bx_ by_ (fun q => ?_) (fun q => ?_)
  · skip
    refine wp_go rfl rfl ?_
    refine e_lconst 1 rfl rfl ?_
    refine wp_go rfl rfl ?_
    refine wp_cv rfl rfl rfl rfl rfl rfl rfl ?_
    refine c_push rfl H26 (by omega) ?_
    refine wp_ret rfl rfl ?_
    simp only [hw_2]
    rw [hw_sw (by decide)]
    simp only [hw_2]
    rw [show ht - 1 - 1 + 1 = ht - 1 by omega, hw_sw (by decide)]
    have kk := k x y hy hx
    rw [if_pos q] at kk
    exact kk
  · skip
    refine wp_go rfl rfl ?_
    refine e_lconst 0 rfl rfl ?_
    refine wp_cv rfl rfl rfl rfl rfl rfl rfl ?_
    refine c_push rfl H26 (by omega) ?_
    refine wp_ret rfl rfl ?_
    simp only [hw_2]
    rw [hw_sw (by decide)]
    simp only [hw_2]
    rw [show ht - 1 - 1 + 1 = ht - 1 by omega, hw_sw (by decide)]
    have kk := k x y hy hx
    rw [if_neg q] at kk
    exact kk
set_option maxRecDepth 100000 in
theorem c_work20 {d : Nat} {h : hc_H} {Q : List hc_V → hc_H → Prop} {ht nb : Int} {nm vs : Nat → Int} (H24 : h.2.2 24 = wk ht) (H25 : h.2.2 25 = ar 64 nm) (H26 : h.2.2 26 = ar 64 vs) (hh : 1 < ht ∧ ht ≤ 64) (hv : ∀ j : Nat, j < Int.toNat ht → -1000000 ≤ vs j ∧ vs j ≤ 1000000) (k : ∀ x y : Int, y = vs (Int.toNat (ht - 1)) → x = vs (Int.toNat (ht - 1 - 1)) → Q [] (hc_wr (hc_wr h 26 (ar 64 (hc_u vs (Int.toNat (ht - 1 - 1)) (clp (if 0 < x + y then 1 else 0))))) 24 (wk (ht - 1)))) : hc_wp (d + 1) mX8_work 0 [xR 24, xI 20, xI nb, none, none] [] h Q := by
  refine wp_go rfl rfl ?_
  refine wp_go rfl rfl ?_
  refine wp_go rfl rfl ?_
  refine wp_go rfl rfl ?_
  refine wp_go rfl rfl ?_
  refine wp_go rfl rfl ?_
  refine wp_go rfl rfl ?_
  refine wp_go rfl rfl ?_
  refine wp_go rfl rfl ?_
  refine wp_go rfl rfl ?_
  refine wp_go rfl rfl ?_
  refine wp_go rfl rfl ?_
  refine wp_go rfl rfl ?_
  refine wp_cv rfl rfl rfl H24 rfl rfl rfl ?_
  refine c_pop H24 H26 (by omega) ?_
  obtain ⟨y, hy⟩ : ∃ z : Int, z = vs (Int.toNat (ht - 1)) := ⟨_, rfl⟩
  rw [← hy]
  have by_ := hv (Int.toNat (ht - 1)) (by omega)
  rw [← hy] at by_
  refine e_istn (L' := [xR 24, xI 20, xI nb, xI y, none]) rfl rfl rfl ?_
  refine wp_go rfl rfl ?_
  refine wp_cv rfl rfl rfl rfl rfl rfl rfl ?_
  refine c_pop rfl H26 (by omega) ?_
  obtain ⟨x, hx⟩ : ∃ z : Int, z = vs (Int.toNat ((ht - 1) - 1)) := ⟨_, rfl⟩
  rw [← hx]
  have bx_ := hv (Int.toNat ((ht - 1) - 1)) (by omega)
  rw [← hx] at bx_
  refine e_ist (L' := [xR 24, xI 20, xI nb, xI y, xI x]) rfl rfl rfl ?_
  refine wp_go rfl rfl ?_
  refine wp_go rfl rfl ?_
  refine wp_go rfl rfl ?_
  refine wp_go rfl rfl ?_
  refine wp_call rfl rfl rfl rfl ?_
  refine c_isWithin (fun q => absurd q (by decide)) (fun _ => ?_)
  refine wp_go rfl rfl ?_
  refine wp_go rfl rfl ?_
  refine wp_go rfl rfl ?_
  refine wp_go rfl rfl ?_
  refine wp_call rfl rfl rfl rfl ?_
  refine c_isTrue20 bx_ by_ (fun q => ?_) (fun q => ?_)
  · skip
    refine wp_go rfl rfl ?_
    refine e_lconst 1 rfl rfl ?_
    refine wp_go rfl rfl ?_
    refine wp_cv rfl rfl rfl rfl rfl rfl rfl ?_
    refine c_push rfl H26 (by omega) ?_
    refine wp_ret rfl rfl ?_
    simp only [hw_2]
    rw [hw_sw (by decide)]
    simp only [hw_2]
    rw [show ht - 1 - 1 + 1 = ht - 1 by omega, hw_sw (by decide)]
    have kk := k x y hy hx
    rw [if_pos q] at kk
    exact kk
  · skip
    refine wp_go rfl rfl ?_
    refine e_lconst 0 rfl rfl ?_
    refine wp_cv rfl rfl rfl rfl rfl rfl rfl ?_
    refine c_push rfl H26 (by omega) ?_
    refine wp_ret rfl rfl ?_
    simp only [hw_2]
    rw [hw_sw (by decide)]
    simp only [hw_2]
    rw [show ht - 1 - 1 + 1 = ht - 1 by omega, hw_sw (by decide)]
    have kk := k x y hy hx
    rw [if_neg q] at kk
    exact kk
set_option maxRecDepth 100000 in
theorem c_work21 {d : Nat} {h : hc_H} {Q : List hc_V → hc_H → Prop} {ht nb : Int} {nm vs : Nat → Int} (H24 : h.2.2 24 = wk ht) (H25 : h.2.2 25 = ar 64 nm) (H26 : h.2.2 26 = ar 64 vs) (hh : 1 < ht ∧ ht ≤ 64) (hv : ∀ j : Nat, j < Int.toNat ht → -1000000 ≤ vs j ∧ vs j ≤ 1000000) (k : ∀ x y : Int, y = vs (Int.toNat (ht - 1)) → x = vs (Int.toNat (ht - 1 - 1)) → Q [] (hc_wr (hc_wr h 26 (ar 64 (hc_u vs (Int.toNat (ht - 1 - 1)) (clp (if 1 < x + y then 1 else 0))))) 24 (wk (ht - 1)))) : hc_wp (d + 1) mX8_work 0 [xR 24, xI 21, xI nb, none, none] [] h Q := by
  refine wp_go rfl rfl ?_
  refine wp_go rfl rfl ?_
  refine wp_go rfl rfl ?_
  refine wp_go rfl rfl ?_
  refine wp_go rfl rfl ?_
  refine wp_go rfl rfl ?_
  refine wp_go rfl rfl ?_
  refine wp_go rfl rfl ?_
  refine wp_go rfl rfl ?_
  refine wp_go rfl rfl ?_
  refine wp_go rfl rfl ?_
  refine wp_go rfl rfl ?_
  refine wp_go rfl rfl ?_
  refine wp_cv rfl rfl rfl H24 rfl rfl rfl ?_
  refine c_pop H24 H26 (by omega) ?_
  obtain ⟨y, hy⟩ : ∃ z : Int, z = vs (Int.toNat (ht - 1)) := ⟨_, rfl⟩
  rw [← hy]
  have by_ := hv (Int.toNat (ht - 1)) (by omega)
  rw [← hy] at by_
  refine e_istn (L' := [xR 24, xI 21, xI nb, xI y, none]) rfl rfl rfl ?_
  refine wp_go rfl rfl ?_
  refine wp_cv rfl rfl rfl rfl rfl rfl rfl ?_
  refine c_pop rfl H26 (by omega) ?_
  obtain ⟨x, hx⟩ : ∃ z : Int, z = vs (Int.toNat ((ht - 1) - 1)) := ⟨_, rfl⟩
  rw [← hx]
  have bx_ := hv (Int.toNat ((ht - 1) - 1)) (by omega)
  rw [← hx] at bx_
  refine e_ist (L' := [xR 24, xI 21, xI nb, xI y, xI x]) rfl rfl rfl ?_
  refine wp_go rfl rfl ?_
  refine wp_go rfl rfl ?_
  refine wp_go rfl rfl ?_
  refine wp_go rfl rfl ?_
  refine wp_call rfl rfl rfl rfl ?_
  refine c_isWithin (fun q => absurd q (by decide)) (fun _ => ?_)
  refine wp_go rfl rfl ?_
  refine wp_go rfl rfl ?_
  refine wp_go rfl rfl ?_
  refine wp_go rfl rfl ?_
  refine wp_call rfl rfl rfl rfl ?_
  refine c_isTrue21 bx_ by_ (fun q => ?_) (fun q => ?_)
  · skip
    refine wp_go rfl rfl ?_
    refine e_lconst 1 rfl rfl ?_
    refine wp_go rfl rfl ?_
    refine wp_cv rfl rfl rfl rfl rfl rfl rfl ?_
    refine c_push rfl H26 (by omega) ?_
    refine wp_ret rfl rfl ?_
    simp only [hw_2]
    rw [hw_sw (by decide)]
    simp only [hw_2]
    rw [show ht - 1 - 1 + 1 = ht - 1 by omega, hw_sw (by decide)]
    have kk := k x y hy hx
    rw [if_pos q] at kk
    exact kk
  · skip
    refine wp_go rfl rfl ?_
    refine e_lconst 0 rfl rfl ?_
    refine wp_cv rfl rfl rfl rfl rfl rfl rfl ?_
    refine c_push rfl H26 (by omega) ?_
    refine wp_ret rfl rfl ?_
    simp only [hw_2]
    rw [hw_sw (by decide)]
    simp only [hw_2]
    rw [show ht - 1 - 1 + 1 = ht - 1 by omega, hw_sw (by decide)]
    have kk := k x y hy hx
    rw [if_neg q] at kk
    exact kk
