/-! the reference: sums worked out -/
abbrev arL (n : Nat) (f : Nat → Int) : hc_E := .inl (1, n, .inl f)
abbrev arB (n : Nat) (f : Nat → Int) : hc_E := .inl (2, n, .inl f)
def BV (l : List Int) : Prop := ∀ z, z ∈ l → -1000000 ≤ z ∧ z ≤ 1000000
def BB (l : List Int) : Prop := ∀ z, z ∈ l → z = 0 ∨ z = 1
theorem BV.c {x : Int} {l : List Int} (h : BV l) (hx : -1000000 ≤ x ∧ x ≤ 1000000) : BV (x :: l) := by
  intro z hz
  rcases List.mem_cons.1 hz with y | y
  · rw [y]; exact hx
  · exact h z y
theorem BV.t {x : Int} {l : List Int} (h : BV (x :: l)) : BV l ∧ (-1000000 ≤ x ∧ x ≤ 1000000) := ⟨fun z hz => h z (List.mem_cons_of_mem x hz), h x List.mem_cons_self⟩
theorem BB.c {x : Int} {l : List Int} (h : BB l) (hx : x = 0 ∨ x = 1) : BB (x :: l) := by
  intro z hz
  rcases List.mem_cons.1 hz with y | y
  · rw [y]; exact hx
  · exact h z y
theorem BB.t {x : Int} {l : List Int} (h : BB (x :: l)) : BB l ∧ (x = 0 ∨ x = 1) := ⟨fun z hz => h z (List.mem_cons_of_mem x hz), h x List.mem_cons_self⟩
set_option maxRecDepth 100000 in
theorem c_clip {d : Nat} {h : hc_H} {Q : List hc_V → hc_H → Prop} {v : Int} (k : Q [xL (clp v)] h) : hc_wp d mX10_clip 0 [xL v, none] [] h Q := by
  refine wp_go rfl rfl ?_
  refine e_ldc2 (1000000) rfl rfl ?_
  refine wp_go rfl rfl ?_
  refine e_ifle rfl (fun c5 => ?_) (fun c5 => ?_)
  · skip
    refine wp_go rfl rfl ?_
    refine e_ldc2n (-1000000) rfl rfl ?_
    refine wp_go rfl rfl ?_
    refine e_ifge rfl (fun c19 => ?_) (fun c19 => ?_)
    · skip
      refine wp_go rfl rfl ?_
      refine wp_ret rfl rfl ?_
      rw [show clp v = v by unfold clp; rw [if_neg (by have := (k3_le (x := v) (y := 1000000)).1 c5; omega), if_neg (by have := (k3_ge (x := v) (y := -1000000)).1 c19; omega)]] at k
      exact k
    · skip
      refine e_ldc2n (-1000000) rfl rfl ?_
      refine wp_go rfl rfl ?_
      refine wp_ret rfl rfl ?_
      rw [show clp v = (-1000000) by unfold clp; rw [if_neg (by have := (k3_le (x := v) (y := 1000000)).1 c5; omega), if_pos (k3_lt.1 (by omega))]] at k
      exact k
  · skip
    refine e_ldc2 (1000000) rfl rfl ?_
    refine wp_go rfl rfl ?_
    refine wp_ret rfl rfl ?_
    rw [show clp v = 1000000 by unfold clp; rw [if_pos (k3_gt.1 (by omega))]] at k
    exact k
set_option maxRecDepth 100000 in
theorem c_two {d : Nat} {h : hc_H} {Q : List hc_V → hc_H → Prop} {x a b : Int} (hx : 3 ≤ x ∧ x ≤ 6) (ha : -1000000 ≤ a ∧ a ≤ 1000000) (hb : -1000000 ≤ b ∧ b ≤ 1000000) (k : Q [xL (clp (o2 (x + 43) a b))] h) : hc_wp (d + 1) mX10_two 0 [xI x, xL a, none, xL b, none] [] h Q := by
  refine wp_go rfl rfl ?_
  by_cases z1_0 : x = 3
  · subst z1_0
    refine wp_go rfl rfl ?_
    refine wp_go rfl rfl ?_
    refine wp_go rfl rfl ?_
    refine e_ladd rfl (by omega) ?_
    refine wp_call rfl rfl rfl rfl ?_
    refine c_clip ?_
    refine wp_ret rfl rfl ?_
    exact k
  by_cases z1_1 : x = 4
  · subst z1_1
    refine wp_go rfl rfl ?_
    refine wp_go rfl rfl ?_
    refine wp_go rfl rfl ?_
    refine e_lsub rfl (by omega) ?_
    refine wp_call rfl rfl rfl rfl ?_
    refine c_clip ?_
    refine wp_ret rfl rfl ?_
    exact k
  by_cases z1_2 : x = 5
  · subst z1_2
    refine wp_go rfl rfl ?_
    refine wp_go rfl rfl ?_
    refine wp_go rfl rfl ?_
    refine e_lmul rfl (by have := mul_bd ha.1 ha.2 hb.1 hb.2; omega) ?_
    refine wp_call rfl rfl rfl rfl ?_
    refine c_clip ?_
    refine wp_ret rfl rfl ?_
    exact k
  refine e_tswd [3, 4, 5] rfl (by decide) rfl ?_ ?_
  · simp [z1_0, z1_1, z1_2]
  refine wp_go rfl rfl ?_
  refine e_lconst 0 rfl rfl ?_
  refine wp_go rfl rfl ?_
  refine e_ifne rfl (fun c52 => ?_) (fun c52 => ?_)
  · skip
    refine wp_go rfl rfl ?_
    refine wp_go rfl rfl ?_
    refine e_ldiv rfl (fun y => c52 (k3_eq.2 y)) (by have := tdiv_bd (y := b) ha.1 ha.2; omega) ?_
    refine wp_call rfl rfl rfl rfl ?_
    refine c_clip ?_
    refine wp_ret rfl rfl ?_
    have h6 : x = 6 := by omega
    subst h6
    rw [show clp (o2 (6 + 43) a b) = clp (Int.tdiv a b) by show clp (rk 49 a b) = _; unfold rk; rw [if_neg (by decide), if_neg (by decide), if_neg (by decide), if_neg (fun y => c52 (k3_eq.2 y))]] at k
    exact k
  · skip
    refine e_lconst 0 rfl rfl ?_
    refine wp_go rfl rfl ?_
    refine wp_ret rfl rfl ?_
    have h6 : x = 6 := by omega
    subst h6
    rw [show clp (o2 (6 + 43) a b) = 0 by show clp (rk 49 a b) = 0; unfold rk; rw [if_neg (by decide), if_neg (by decide), if_neg (by decide), if_pos (k3_eq.1 c52)]; rfl] at k
    exact k
set_option maxRecDepth 100000 in
theorem c_isAsked {d : Nat} {h : hc_H} {Q : List hc_V → hc_H → Prop} {x a b : Int} (hx : 10 ≤ x ∧ x ≤ 15) (kt : clp (o2 (x + 30) a b) = 1 → Q [xI 1] h) (kf : clp (o2 (x + 30) a b) = 0 → Q [xI 0] h) : hc_wp d mX10_isAsked 0 [xI x, xL a, none, xL b, none] [] h Q := by
  refine wp_go rfl rfl ?_
  refine wp_go rfl rfl ?_
  refine e_cne rfl (fun c3 => ?_) (fun c3 => ?_)
  · skip
    refine wp_go rfl rfl ?_
    refine wp_go rfl rfl ?_
    refine e_cne rfl (fun c23 => ?_) (fun c23 => ?_)
    · skip
      refine wp_go rfl rfl ?_
      refine wp_go rfl rfl ?_
      refine e_cne rfl (fun c43 => ?_) (fun c43 => ?_)
      · skip
        refine wp_go rfl rfl ?_
        refine wp_go rfl rfl ?_
        refine e_cne rfl (fun c63 => ?_) (fun c63 => ?_)
        · skip
          refine wp_go rfl rfl ?_
          refine wp_go rfl rfl ?_
          refine e_cne rfl (fun c83 => ?_) (fun c83 => ?_)
          · skip
            refine wp_go rfl rfl ?_
            refine wp_go rfl rfl ?_
            refine wp_go rfl rfl ?_
            refine e_ifeq rfl (fun c103 => ?_) (fun c103 => ?_)
            · skip
              refine wp_go rfl rfl ?_
              refine wp_ret rfl rfl ?_
              have hx2 : x = 15 := by omega
              subst hx2
              have hz := (k3_eq (x := a) (y := b))
              refine kf ?_
              show clp (if ¬ a = b then 1 else 0) = 0
              rw [if_neg (by omega)]
              rfl
            · skip
              refine wp_go rfl rfl ?_
              refine wp_go rfl rfl ?_
              refine wp_ret rfl rfl ?_
              have hx2 : x = 15 := by omega
              subst hx2
              have hz := (k3_eq (x := a) (y := b))
              refine kt ?_
              show clp (if ¬ a = b then 1 else 0) = 1
              rw [if_pos (by omega)]
              rfl
          · skip
            refine wp_go rfl rfl ?_
            refine wp_go rfl rfl ?_
            refine wp_go rfl rfl ?_
            refine e_ifne rfl (fun c89 => ?_) (fun c89 => ?_)
            · skip
              refine wp_go rfl rfl ?_
              refine wp_go rfl rfl ?_
              refine wp_ret rfl rfl ?_
              have hx2 : x = 14 := by omega
              subst hx2
              have hz := (k3_eq (x := a) (y := b))
              refine kf ?_
              show clp (if a = b then 1 else 0) = 0
              rw [if_neg (by omega)]
              rfl
            · skip
              refine wp_go rfl rfl ?_
              refine wp_go rfl rfl ?_
              refine wp_ret rfl rfl ?_
              have hx2 : x = 14 := by omega
              subst hx2
              have hz := (k3_eq (x := a) (y := b))
              refine kt ?_
              show clp (if a = b then 1 else 0) = 1
              rw [if_pos (by omega)]
              rfl
        · skip
          refine wp_go rfl rfl ?_
          refine wp_go rfl rfl ?_
          refine wp_go rfl rfl ?_
          refine e_iflt rfl (fun c69 => ?_) (fun c69 => ?_)
          · skip
            refine wp_go rfl rfl ?_
            refine wp_go rfl rfl ?_
            refine wp_ret rfl rfl ?_
            have hx2 : x = 13 := by omega
            subst hx2
            have hz := (k3_lt (x := a) (y := b))
            refine kf ?_
            show clp (if b ≤ a then 1 else 0) = 0
            rw [if_neg (by omega)]
            rfl
          · skip
            refine wp_go rfl rfl ?_
            refine wp_go rfl rfl ?_
            refine wp_ret rfl rfl ?_
            have hx2 : x = 13 := by omega
            subst hx2
            have hz := (k3_lt (x := a) (y := b))
            refine kt ?_
            show clp (if b ≤ a then 1 else 0) = 1
            rw [if_pos (by omega)]
            rfl
      · skip
        refine wp_go rfl rfl ?_
        refine wp_go rfl rfl ?_
        refine wp_go rfl rfl ?_
        refine e_ifle rfl (fun c49 => ?_) (fun c49 => ?_)
        · skip
          refine wp_go rfl rfl ?_
          refine wp_go rfl rfl ?_
          refine wp_ret rfl rfl ?_
          have hx2 : x = 12 := by omega
          subst hx2
          have hz := (k3_le (x := a) (y := b))
          refine kf ?_
          show clp (if b < a then 1 else 0) = 0
          rw [if_neg (by omega)]
          rfl
        · skip
          refine wp_go rfl rfl ?_
          refine wp_go rfl rfl ?_
          refine wp_ret rfl rfl ?_
          have hx2 : x = 12 := by omega
          subst hx2
          have hz := (k3_le (x := a) (y := b))
          refine kt ?_
          show clp (if b < a then 1 else 0) = 1
          rw [if_pos (by omega)]
          rfl
    · skip
      refine wp_go rfl rfl ?_
      refine wp_go rfl rfl ?_
      refine wp_go rfl rfl ?_
      refine e_ifgt rfl (fun c29 => ?_) (fun c29 => ?_)
      · skip
        refine wp_go rfl rfl ?_
        refine wp_go rfl rfl ?_
        refine wp_ret rfl rfl ?_
        have hx2 : x = 11 := by omega
        subst hx2
        have hz := (k3_gt (x := a) (y := b))
        refine kf ?_
        show clp (if a ≤ b then 1 else 0) = 0
        rw [if_neg (by omega)]
        rfl
      · skip
        refine wp_go rfl rfl ?_
        refine wp_go rfl rfl ?_
        refine wp_ret rfl rfl ?_
        have hx2 : x = 11 := by omega
        subst hx2
        have hz := (k3_gt (x := a) (y := b))
        refine kt ?_
        show clp (if a ≤ b then 1 else 0) = 1
        rw [if_pos (by omega)]
        rfl
  · skip
    refine wp_go rfl rfl ?_
    refine wp_go rfl rfl ?_
    refine wp_go rfl rfl ?_
    refine e_ifge rfl (fun c9 => ?_) (fun c9 => ?_)
    · skip
      refine wp_go rfl rfl ?_
      refine wp_go rfl rfl ?_
      refine wp_ret rfl rfl ?_
      have hx2 : x = 10 := by omega
      subst hx2
      have hz := (k3_ge (x := a) (y := b))
      refine kf ?_
      show clp (if a < b then 1 else 0) = 0
      rw [if_neg (by omega)]
      rfl
    · skip
      refine wp_go rfl rfl ?_
      refine wp_go rfl rfl ?_
      refine wp_ret rfl rfl ?_
      have hx2 : x = 10 := by omega
      subst hx2
      have hz := (k3_ge (x := a) (y := b))
      refine kt ?_
      show clp (if a < b then 1 else 0) = 1
      rw [if_pos (by omega)]
      rfl
set_option maxRecDepth 100000 in
theorem c_between {d : Nat} {h : hc_H} {Q : List hc_V → hc_H → Prop} {v top : Int} (hv : -1000000 ≤ v ∧ v ≤ 1000000) (ht : 0 ≤ top) (k : Q [xI (cut0 v top)] h) : hc_wp d mX10_between 0 [xL v, none, xI top] [] h Q := by
  have k3l := (k3_le (x := v) (y := top))
  refine wp_go rfl rfl ?_
  refine e_lconst 0 rfl rfl ?_
  refine wp_go rfl rfl ?_
  refine e_ifge rfl (fun c3 => ?_) (fun c3 => ?_)
  · skip
    refine wp_go rfl rfl ?_
    refine wp_go rfl rfl ?_
    refine wp_go rfl rfl ?_
    refine wp_go rfl rfl ?_
    refine e_ifle rfl (fun c14 => ?_) (fun c14 => ?_)
    · skip
      refine wp_go rfl rfl ?_
      refine wp_go rfl rfl ?_
      refine wp_ret rfl rfl ?_
      rw [show cut0 v top = hc_l2i v by unfold cut0; have z := (k3_gt (x := v) (y := top)); have z2 := (k3_ge (x := v) (y := 0)); rw [hc_l2i_id (by omega) (by omega), if_neg (show ¬ top < v by omega)]; split <;> omega] at k
      exact k
    · skip
      refine wp_go rfl rfl ?_
      refine wp_go rfl rfl ?_
      refine wp_ret rfl rfl ?_
      rw [show cut0 v top = top by unfold cut0; have z := (k3_gt (x := v) (y := top)); have z2 := (k3_ge (x := v) (y := 0)); rw [if_pos (show top < v by omega)]; split <;> omega] at k
      exact k
  · skip
    refine wp_go rfl rfl ?_
    refine wp_go rfl rfl ?_
    refine wp_ret rfl rfl ?_
    rw [show cut0 v top = 0 by unfold cut0; have z := (k3_ge (x := v) (y := 0)); repeat (first | rw [if_neg (by split <;> omega)] | rw [if_pos (by split <;> omega)]) <;> omega] at k
    exact k
set_option maxRecDepth 100000 in
theorem w_num {d : Nat} {h : hc_H} {Q : List hc_V → hc_H → Prop} {tx cl : hc_V} {x0 c a : Nat} {x v : Int} {s T nm vals tr : Nat → Int} {n t : Nat} (H71 : h.2.2 71 = mo s) (H74 : h.2.2 74 = ar 2720 T) (H77 : h.2.2 77 = ar 7 nm) (H78 : h.2.2 78 = arL 330 vals) (H79 : h.2.2 79 = arB 330 tr) (hx : x = 0) (hn : n < 330) (k : hc_wp (d + 3) mX10_work 400 [xR 71, tx, cl, xI (x0 : Int), xI (c : Int), xI ((n + 1 : Nat) : Int), xI ((t : Nat) : Int), xI (a : Int), xI x, xI v] [] (hc_wr h 78 (arL 330 (hc_u vals n v))) Q) : hc_wp (d + 3) mX10_work 81 [xR 71, tx, cl, xI (x0 : Int), xI (c : Int), xI ((n : Nat) : Int), xI ((t : Nat) : Int), xI (a : Int), xI x, xI v] [] h Q := by
  refine wp_go rfl rfl ?_
  refine wp_go rfl rfl ?_
  refine e_cgt rfl (fun c84 => absurd c84 (by omega)) (fun c84 => ?_)
  refine wp_go rfl rfl ?_
  refine e_get rfl H71 rfl rfl ?_
  refine wp_go rfl rfl ?_
  refine wp_go rfl rfl ?_
  refine e_ifne rfl (fun c95 => absurd hx c95) (fun c95 => ?_)
  refine wp_go rfl rfl ?_
  refine wp_go rfl rfl ?_
  refine wp_go rfl rfl ?_
  refine e_lastE (p := n) rfl H78 ⟨by omega, by omega⟩ ?_
  refine e_inc (L' := [xR 71, tx, cl, xI (x0 : Int), xI (c : Int), xI (((n : Nat) : Int) + 1), xI ((t : Nat) : Int), xI (a : Int), xI x, xI v]) rfl rfl (by omega) rfl ?_
  refine wp_go rfl rfl ?_
  exact k
set_option maxRecDepth 100000 in
theorem w_name {d : Nat} {h : hc_H} {Q : List hc_V → hc_H → Prop} {tx cl : hc_V} {x0 c a : Nat} {x v : Int} {s T nm vals tr : Nat → Int} {n t : Nat} (H71 : h.2.2 71 = mo s) (H74 : h.2.2 74 = ar 2720 T) (H77 : h.2.2 77 = ar 7 nm) (H78 : h.2.2 78 = arL 330 vals) (H79 : h.2.2 79 = arB 330 tr) (hx : x = 1) (hv : 0 ≤ v ∧ v ≤ 6) (hn : n < 330) (k : hc_wp (d + 3) mX10_work 400 [xR 71, tx, cl, xI (x0 : Int), xI (c : Int), xI ((n + 1 : Nat) : Int), xI ((t : Nat) : Int), xI (a : Int), xI x, xI v] [] (hc_wr h 78 (arL 330 (hc_u vals n (nm v.toNat)))) Q) : hc_wp (d + 3) mX10_work 81 [xR 71, tx, cl, xI (x0 : Int), xI (c : Int), xI ((n : Nat) : Int), xI ((t : Nat) : Int), xI (a : Int), xI x, xI v] [] h Q := by
  refine wp_go rfl rfl ?_
  refine wp_go rfl rfl ?_
  refine e_cgt rfl (fun c84 => absurd c84 (by omega)) (fun c84 => ?_)
  refine wp_go rfl rfl ?_
  refine e_get rfl H71 rfl rfl ?_
  refine wp_go rfl rfl ?_
  refine wp_go rfl rfl ?_
  refine e_ifne rfl (fun c95 => ?_) (fun c95 => absurd c95 (by omega))
  refine wp_go rfl rfl ?_
  refine e_get rfl H71 rfl rfl ?_
  refine wp_go rfl rfl ?_
  refine e_aldE (p := v.toNat) rfl H77 rfl ⟨by omega, by omega⟩ ?_
  refine wp_go rfl rfl ?_
  refine e_lastE (p := n) rfl H78 ⟨by omega, by omega⟩ ?_
  refine e_inc (L' := [xR 71, tx, cl, xI (x0 : Int), xI (c : Int), xI (((n : Nat) : Int) + 1), xI ((t : Nat) : Int), xI (a : Int), xI x, xI v]) rfl rfl (by omega) rfl ?_
  refine wp_go rfl rfl ?_
  exact k
set_option maxRecDepth 100000 in
theorem w_neg {d : Nat} {h : hc_H} {Q : List hc_V → hc_H → Prop} {tx cl : hc_V} {x0 c a : Nat} {x v : Int} {s T nm vals tr : Nat → Int} {m t : Nat} (H71 : h.2.2 71 = mo s) (H74 : h.2.2 74 = ar 2720 T) (H77 : h.2.2 77 = ar 7 nm) (H78 : h.2.2 78 = arL 330 vals) (H79 : h.2.2 79 = arB 330 tr) (hx : x = 2) (hn : m < 330) (hb : -1000000 ≤ vals m ∧ vals m ≤ 1000000) (k : hc_wp (d + 3) mX10_work 400 [xR 71, tx, cl, xI (x0 : Int), xI (c : Int), xI ((m + 1 : Nat) : Int), xI ((t : Nat) : Int), xI (a : Int), xI x, xI v] [] (hc_wr h 78 (arL 330 (hc_u vals m (-(vals m))))) Q) : hc_wp (d + 3) mX10_work 81 [xR 71, tx, cl, xI (x0 : Int), xI (c : Int), xI ((m + 1 : Nat) : Int), xI ((t : Nat) : Int), xI (a : Int), xI x, xI v] [] h Q := by
  refine wp_go rfl rfl ?_
  refine wp_go rfl rfl ?_
  refine e_cgt rfl (fun c84 => ?_) (fun c84 => absurd (show (1 : Int) < x by omega) c84)
  refine wp_go rfl rfl ?_
  refine wp_go rfl rfl ?_
  refine e_cne rfl (fun c122 => absurd hx c122) (fun c122 => ?_)
  refine wp_go rfl rfl ?_
  refine e_get rfl H71 rfl rfl ?_
  refine wp_go rfl rfl ?_
  refine wp_go rfl rfl ?_
  refine e_isub rfl (by omega) ?_
  refine wp_go rfl rfl ?_
  refine e_get rfl H71 rfl rfl ?_
  refine wp_go rfl rfl ?_
  refine wp_go rfl rfl ?_
  refine e_isub rfl (by omega) ?_
  refine e_laldE (p := m) rfl H78 ⟨by omega, by omega⟩ ?_
  refine e_lneg rfl (by omega) ?_
  refine e_lastE (p := m) rfl H78 ⟨by omega, by omega⟩ ?_
  refine wp_go rfl rfl ?_
  exact k
set_option maxRecDepth 100000 in
theorem w_two {d : Nat} {h : hc_H} {Q : List hc_V → hc_H → Prop} {tx cl : hc_V} {x0 c a : Nat} {x v : Int} {s T nm vals tr : Nat → Int} {m t : Nat} (H71 : h.2.2 71 = mo s) (H74 : h.2.2 74 = ar 2720 T) (H77 : h.2.2 77 = ar 7 nm) (H78 : h.2.2 78 = arL 330 vals) (H79 : h.2.2 79 = arB 330 tr) (hx : 3 ≤ x ∧ x ≤ 6) (hn : m + 1 < 330) (hb1 : -1000000 ≤ vals m ∧ vals m ≤ 1000000) (hb2 : -1000000 ≤ vals (m + 1) ∧ vals (m + 1) ≤ 1000000) (k : hc_wp (d + 3) mX10_work 400 [xR 71, tx, cl, xI (x0 : Int), xI (c : Int), xI ((m + 1 : Nat) : Int), xI ((t : Nat) : Int), xI (a : Int), xI x, xI v] [] (hc_wr h 78 (arL 330 (hc_u vals m (clp (o2 (x + 43) (vals m) (vals (m + 1))))))) Q) : hc_wp (d + 3) mX10_work 81 [xR 71, tx, cl, xI (x0 : Int), xI (c : Int), xI ((m + 2 : Nat) : Int), xI ((t : Nat) : Int), xI (a : Int), xI x, xI v] [] h Q := by
  refine wp_go rfl rfl ?_
  refine wp_go rfl rfl ?_
  refine e_cgt rfl (fun c84 => ?_) (fun c84 => absurd (show (1 : Int) < x by omega) c84)
  refine wp_go rfl rfl ?_
  refine wp_go rfl rfl ?_
  refine e_cne rfl (fun c122 => ?_) (fun c122 => absurd c122 (by omega))
  refine wp_go rfl rfl ?_
  refine wp_go rfl rfl ?_
  refine e_cge rfl (fun c151 => absurd c151 (by omega)) (fun c151 => ?_)
  refine e_inc (L' := [xR 71, tx, cl, xI (x0 : Int), xI (c : Int), xI (((m + 2 : Nat) : Int) + (-1)), xI ((t : Nat) : Int), xI (a : Int), xI x, xI v]) rfl rfl (by omega) rfl ?_
  rw [show ((m + 2 : Nat) : Int) + (-1) = ((m + 1 : Nat) : Int) by omega]
  refine wp_go rfl rfl ?_
  refine e_get rfl H71 rfl rfl ?_
  refine wp_go rfl rfl ?_
  refine wp_go rfl rfl ?_
  refine e_isub rfl (by omega) ?_
  refine wp_go rfl rfl ?_
  refine wp_go rfl rfl ?_
  refine e_get rfl H71 rfl rfl ?_
  refine wp_go rfl rfl ?_
  refine wp_go rfl rfl ?_
  refine e_isub rfl (by omega) ?_
  refine e_laldE (p := m) rfl H78 ⟨by omega, by omega⟩ ?_
  refine wp_go rfl rfl ?_
  refine e_get rfl H71 rfl rfl ?_
  refine wp_go rfl rfl ?_
  refine e_laldE (p := m + 1) rfl H78 ⟨by omega, by omega⟩ ?_
  refine wp_call rfl rfl rfl rfl ?_
  refine c_two hx hb1 hb2 ?_
  refine e_lastE (p := m) rfl H78 ⟨by omega, by omega⟩ ?_
  refine wp_go rfl rfl ?_
  exact k
set_option maxRecDepth 100000 in
theorem w_ask {d : Nat} {h : hc_H} {Q : List hc_V → hc_H → Prop} {tx cl : hc_V} {x0 c a : Nat} {x v : Int} {s T nm vals tr : Nat → Int} {m t : Nat} (H71 : h.2.2 71 = mo s) (H74 : h.2.2 74 = ar 2720 T) (H77 : h.2.2 77 = ar 7 nm) (H78 : h.2.2 78 = arL 330 vals) (H79 : h.2.2 79 = arB 330 tr) (hx : 10 ≤ x ∧ x ≤ 15) (hn : m + 1 < 330) (ht : t < 330) (k : hc_wp (d + 3) mX10_work 400 [xR 71, tx, cl, xI (x0 : Int), xI (c : Int), xI ((m : Nat) : Int), xI ((t + 1 : Nat) : Int), xI (a : Int), xI x, xI v] [] (hc_wr h 79 (arB 330 (hc_u tr t (clp (o2 (x + 30) (vals m) (vals (m + 1))))))) Q) : hc_wp (d + 3) mX10_work 81 [xR 71, tx, cl, xI (x0 : Int), xI (c : Int), xI ((m + 2 : Nat) : Int), xI ((t : Nat) : Int), xI (a : Int), xI x, xI v] [] h Q := by
  refine wp_go rfl rfl ?_
  refine wp_go rfl rfl ?_
  refine e_cgt rfl (fun c84 => ?_) (fun c84 => absurd (show (1 : Int) < x by omega) c84)
  refine wp_go rfl rfl ?_
  refine wp_go rfl rfl ?_
  refine e_cne rfl (fun c122 => ?_) (fun c122 => absurd c122 (by omega))
  refine wp_go rfl rfl ?_
  refine wp_go rfl rfl ?_
  refine e_cge rfl (fun c151 => ?_) (fun c151 => absurd (show (10 : Int) ≤ x by omega) c151)
  refine wp_go rfl rfl ?_
  refine wp_go rfl rfl ?_
  refine e_cge rfl (fun c194 => absurd c194 (by omega)) (fun c194 => ?_)
  refine e_inc (L' := [xR 71, tx, cl, xI (x0 : Int), xI (c : Int), xI (((m + 2 : Nat) : Int) + (-2)), xI ((t : Nat) : Int), xI (a : Int), xI x, xI v]) rfl rfl (by omega) rfl ?_
  rw [show ((m + 2 : Nat) : Int) + (-2) = (m : Int) by omega]
  refine wp_go rfl rfl ?_
  refine e_get rfl H71 rfl rfl ?_
  refine wp_go rfl rfl ?_
  refine wp_go rfl rfl ?_
  refine wp_go rfl rfl ?_
  refine e_get rfl H71 rfl rfl ?_
  refine wp_go rfl rfl ?_
  refine e_laldE (p := m) rfl H78 ⟨by omega, by omega⟩ ?_
  refine wp_go rfl rfl ?_
  refine e_get rfl H71 rfl rfl ?_
  refine wp_go rfl rfl ?_
  refine wp_go rfl rfl ?_
  refine e_iadd rfl (by omega) ?_
  refine e_laldE (p := m + 1) rfl H78 ⟨by omega, by omega⟩ ?_
  refine wp_call rfl rfl rfl rfl ?_
  refine c_isAsked hx (fun y => ?_) (fun y => ?_)
  · skip
    refine e_bastE (p := t) rfl H79 ⟨by omega, by omega⟩ (by omega) ?_
    refine e_inc (L' := [xR 71, tx, cl, xI (x0 : Int), xI (c : Int), xI (m : Int), xI (((t : Nat) : Int) + 1), xI (a : Int), xI x, xI v]) rfl rfl (by omega) rfl ?_
    refine wp_go rfl rfl ?_
    exact (by rw [y] at k; exact k)
  · skip
    refine e_bastE (p := t) rfl H79 ⟨by omega, by omega⟩ (by omega) ?_
    refine e_inc (L' := [xR 71, tx, cl, xI (x0 : Int), xI (c : Int), xI (m : Int), xI (((t : Nat) : Int) + 1), xI (a : Int), xI x, xI v]) rfl rfl (by omega) rfl ?_
    refine wp_go rfl rfl ?_
    exact (by rw [y] at k; exact k)
set_option maxRecDepth 100000 in
theorem w_not {d : Nat} {h : hc_H} {Q : List hc_V → hc_H → Prop} {tx cl : hc_V} {x0 c a : Nat} {x v : Int} {s T nm vals tr : Nat → Int} {n t : Nat} (H71 : h.2.2 71 = mo s) (H74 : h.2.2 74 = ar 2720 T) (H77 : h.2.2 77 = ar 7 nm) (H78 : h.2.2 78 = arL 330 vals) (H79 : h.2.2 79 = arB 330 tr) (hx : x = 20) (ht : t < 330) (hb : tr t = 0 ∨ tr t = 1) (k : hc_wp (d + 3) mX10_work 400 [xR 71, tx, cl, xI (x0 : Int), xI (c : Int), xI ((n : Nat) : Int), xI ((t + 1 : Nat) : Int), xI (a : Int), xI x, xI v] [] (hc_wr h 79 (arB 330 (hc_u tr t (1 - tr t)))) Q) : hc_wp (d + 3) mX10_work 81 [xR 71, tx, cl, xI (x0 : Int), xI (c : Int), xI ((n : Nat) : Int), xI ((t + 1 : Nat) : Int), xI (a : Int), xI x, xI v] [] h Q := by
  refine wp_go rfl rfl ?_
  refine wp_go rfl rfl ?_
  refine e_cgt rfl (fun c84 => ?_) (fun c84 => absurd (show (1 : Int) < x by omega) c84)
  refine wp_go rfl rfl ?_
  refine wp_go rfl rfl ?_
  refine e_cne rfl (fun c122 => ?_) (fun c122 => absurd c122 (by omega))
  refine wp_go rfl rfl ?_
  refine wp_go rfl rfl ?_
  refine e_cge rfl (fun c151 => ?_) (fun c151 => absurd (show (10 : Int) ≤ x by omega) c151)
  refine wp_go rfl rfl ?_
  refine wp_go rfl rfl ?_
  refine e_cge rfl (fun c194 => ?_) (fun c194 => absurd (show (20 : Int) ≤ x by omega) c194)
  refine wp_go rfl rfl ?_
  refine wp_go rfl rfl ?_
  refine e_cne rfl (fun c238 => absurd hx c238) (fun c238 => ?_)
  refine wp_go rfl rfl ?_
  refine e_get rfl H71 rfl rfl ?_
  refine wp_go rfl rfl ?_
  refine wp_go rfl rfl ?_
  refine e_isub rfl (by omega) ?_
  refine wp_go rfl rfl ?_
  refine e_get rfl H71 rfl rfl ?_
  refine wp_go rfl rfl ?_
  refine wp_go rfl rfl ?_
  refine e_isub rfl (by omega) ?_
  refine e_baldE (p := t) rfl H79 ⟨by omega, by omega⟩ ?_
  refine e_ifne rfl (fun c258 => ?_) (fun c258 => ?_)
  · skip
    refine wp_go rfl rfl ?_
    refine e_bastE (p := t) rfl H79 ⟨by omega, by omega⟩ (by omega) ?_
    refine wp_go rfl rfl ?_
    exact (by rw [show 1 - tr t = 0 by omega] at k; exact k)
  · skip
    refine wp_go rfl rfl ?_
    refine wp_go rfl rfl ?_
    refine e_bastE (p := t) rfl H79 ⟨by omega, by omega⟩ (by omega) ?_
    refine wp_go rfl rfl ?_
    exact (by rw [show 1 - tr t = 1 by omega] at k; exact k)
set_option maxRecDepth 100000 in
theorem w_sel {d : Nat} {h : hc_H} {Q : List hc_V → hc_H → Prop} {tx cl : hc_V} {x0 c a : Nat} {x v : Int} {s T nm vals tr : Nat → Int} {m t : Nat} (H71 : h.2.2 71 = mo s) (H74 : h.2.2 74 = ar 2720 T) (H77 : h.2.2 77 = ar 7 nm) (H78 : h.2.2 78 = arL 330 vals) (H79 : h.2.2 79 = arB 330 tr) (hx : x = 23) (hn : m + 1 < 330) (ht : t < 330) (k : hc_wp (d + 3) mX10_work 400 [xR 71, tx, cl, xI (x0 : Int), xI (c : Int), xI ((m + 1 : Nat) : Int), xI ((t : Nat) : Int), xI (a : Int), xI x, xI v] [] (hc_wr h 78 (arL 330 (hc_u vals m (if tr t = 0 then vals (m + 1) else vals m)))) Q) : hc_wp (d + 3) mX10_work 81 [xR 71, tx, cl, xI (x0 : Int), xI (c : Int), xI ((m + 2 : Nat) : Int), xI ((t + 1 : Nat) : Int), xI (a : Int), xI x, xI v] [] h Q := by
  refine wp_go rfl rfl ?_
  refine wp_go rfl rfl ?_
  refine e_cgt rfl (fun c84 => ?_) (fun c84 => absurd (show (1 : Int) < x by omega) c84)
  refine wp_go rfl rfl ?_
  refine wp_go rfl rfl ?_
  refine e_cne rfl (fun c122 => ?_) (fun c122 => absurd c122 (by omega))
  refine wp_go rfl rfl ?_
  refine wp_go rfl rfl ?_
  refine e_cge rfl (fun c151 => ?_) (fun c151 => absurd (show (10 : Int) ≤ x by omega) c151)
  refine wp_go rfl rfl ?_
  refine wp_go rfl rfl ?_
  refine e_cge rfl (fun c194 => ?_) (fun c194 => absurd (show (20 : Int) ≤ x by omega) c194)
  refine wp_go rfl rfl ?_
  refine wp_go rfl rfl ?_
  refine e_cne rfl (fun c238 => ?_) (fun c238 => absurd c238 (by omega))
  refine wp_go rfl rfl ?_
  refine wp_go rfl rfl ?_
  refine e_cne rfl (fun c274 => absurd hx c274) (fun c274 => ?_)
  refine e_inc (L' := [xR 71, tx, cl, xI (x0 : Int), xI (c : Int), xI (((m + 2 : Nat) : Int) + (-1)), xI ((t + 1 : Nat) : Int), xI (a : Int), xI x, xI v]) rfl rfl (by omega) rfl ?_
  rw [show ((m + 2 : Nat) : Int) + (-1) = ((m + 1 : Nat) : Int) by omega]
  refine e_inc (L' := [xR 71, tx, cl, xI (x0 : Int), xI (c : Int), xI ((m + 1 : Nat) : Int), xI (((t + 1 : Nat) : Int) + (-1)), xI (a : Int), xI x, xI v]) rfl rfl (by omega) rfl ?_
  rw [show ((t + 1 : Nat) : Int) + (-1) = (t : Int) by omega]
  refine wp_go rfl rfl ?_
  refine e_get rfl H71 rfl rfl ?_
  refine wp_go rfl rfl ?_
  refine wp_go rfl rfl ?_
  refine e_isub rfl (by omega) ?_
  refine wp_go rfl rfl ?_
  refine e_get rfl H71 rfl rfl ?_
  refine wp_go rfl rfl ?_
  refine e_baldE (p := t) rfl H79 ⟨by omega, by omega⟩ ?_
  refine e_ifeq rfl (fun c298 => ?_) (fun c298 => ?_)
  · skip
    refine wp_go rfl rfl ?_
    refine e_get rfl H71 rfl rfl ?_
    refine wp_go rfl rfl ?_
    refine e_laldE (p := m + 1) rfl H78 ⟨by omega, by omega⟩ ?_
    refine e_lastE (p := m) rfl H78 ⟨by omega, by omega⟩ ?_
    refine wp_go rfl rfl ?_
    exact (by rw [if_pos c298] at k; exact k)
  · skip
    refine wp_go rfl rfl ?_
    refine e_get rfl H71 rfl rfl ?_
    refine wp_go rfl rfl ?_
    refine wp_go rfl rfl ?_
    refine e_isub rfl (by omega) ?_
    refine e_laldE (p := m) rfl H78 ⟨by omega, by omega⟩ ?_
    refine wp_go rfl rfl ?_
    refine e_lastE (p := m) rfl H78 ⟨by omega, by omega⟩ ?_
    refine wp_go rfl rfl ?_
    exact (by rw [if_neg c298] at k; exact k)
set_option maxRecDepth 100000 in
theorem w_and {d : Nat} {h : hc_H} {Q : List hc_V → hc_H → Prop} {tx cl : hc_V} {x0 c a : Nat} {x v : Int} {s T nm vals tr : Nat → Int} {n t : Nat} (H71 : h.2.2 71 = mo s) (H74 : h.2.2 74 = ar 2720 T) (H77 : h.2.2 77 = ar 7 nm) (H78 : h.2.2 78 = arL 330 vals) (H79 : h.2.2 79 = arB 330 tr) (hx : x = 21 ∨ x = 22) (ht : t + 1 < 330) (hb1 : tr t = 0 ∨ tr t = 1) (hb2 : tr (t + 1) = 0 ∨ tr (t + 1) = 1) (k : hc_wp (d + 3) mX10_work 400 [xR 71, tx, cl, xI (x0 : Int), xI (c : Int), xI ((n : Nat) : Int), xI ((t + 1 : Nat) : Int), xI (a : Int), xI x, xI v] [] (hc_wr h 79 (arB 330 (hc_u tr t (clp (o2 (if x = 21 then 21 else 20) (tr t) (tr (t + 1))))))) Q) : hc_wp (d + 3) mX10_work 81 [xR 71, tx, cl, xI (x0 : Int), xI (c : Int), xI ((n : Nat) : Int), xI ((t + 2 : Nat) : Int), xI (a : Int), xI x, xI v] [] h Q := by
  refine wp_go rfl rfl ?_
  refine wp_go rfl rfl ?_
  refine e_cgt rfl (fun c84 => ?_) (fun c84 => absurd (show (1 : Int) < x by omega) c84)
  refine wp_go rfl rfl ?_
  refine wp_go rfl rfl ?_
  refine e_cne rfl (fun c122 => ?_) (fun c122 => absurd c122 (by omega))
  refine wp_go rfl rfl ?_
  refine wp_go rfl rfl ?_
  refine e_cge rfl (fun c151 => ?_) (fun c151 => absurd (show (10 : Int) ≤ x by omega) c151)
  refine wp_go rfl rfl ?_
  refine wp_go rfl rfl ?_
  refine e_cge rfl (fun c194 => ?_) (fun c194 => absurd (show (20 : Int) ≤ x by omega) c194)
  refine wp_go rfl rfl ?_
  refine wp_go rfl rfl ?_
  refine e_cne rfl (fun c238 => ?_) (fun c238 => absurd c238 (by omega))
  refine wp_go rfl rfl ?_
  refine wp_go rfl rfl ?_
  refine e_cne rfl (fun c274 => ?_) (fun c274 => absurd c274 (by omega))
  refine e_inc (L' := [xR 71, tx, cl, xI (x0 : Int), xI (c : Int), xI ((n : Nat) : Int), xI (((t + 2 : Nat) : Int) + (-1)), xI (a : Int), xI x, xI v]) rfl rfl (by omega) rfl ?_
  rw [show ((t + 2 : Nat) : Int) + (-1) = ((t + 1 : Nat) : Int) by omega]
  refine wp_go rfl rfl ?_
  refine e_get rfl H71 rfl rfl ?_
  refine wp_go rfl rfl ?_
  refine wp_go rfl rfl ?_
  refine e_isub rfl (by omega) ?_
  refine wp_go rfl rfl ?_
  refine wp_go rfl rfl ?_
  refine e_cne rfl (fun c339 => ?_) (fun c339 => ?_)
  · skip
    refine wp_go rfl rfl ?_
    refine e_get rfl H71 rfl rfl ?_
    refine wp_go rfl rfl ?_
    refine wp_go rfl rfl ?_
    refine e_isub rfl (by omega) ?_
    refine e_baldE (p := t) rfl H79 ⟨by omega, by omega⟩ ?_
    refine e_ifne rfl (fun c381 => ?_) (fun c381 => ?_)
    · skip
      refine wp_go rfl rfl ?_
      refine wp_go rfl rfl ?_
      refine e_bastE (p := t) rfl H79 ⟨by omega, by omega⟩ (by omega) ?_
      exact (by rw [show clp (o2 (if x = 21 then 21 else 20) (tr t) (tr (t + 1))) = 1 by rw [if_neg (by omega)]; show clp (if 0 < tr t + tr (t + 1) then 1 else 0) = _; split <;> first | rfl | (exfalso; omega)] at k; exact k)
    · skip
      refine wp_go rfl rfl ?_
      refine e_get rfl H71 rfl rfl ?_
      refine wp_go rfl rfl ?_
      refine e_baldE (p := t + 1) rfl H79 ⟨by omega, by omega⟩ ?_
      refine e_ifeq rfl (fun c391 => ?_) (fun c391 => ?_)
      · skip
        refine wp_go rfl rfl ?_
        refine e_bastE (p := t) rfl H79 ⟨by omega, by omega⟩ (by omega) ?_
        exact (by rw [show clp (o2 (if x = 21 then 21 else 20) (tr t) (tr (t + 1))) = 0 by rw [if_neg (by omega)]; show clp (if 0 < tr t + tr (t + 1) then 1 else 0) = _; split <;> first | rfl | (exfalso; omega)] at k; exact k)
      · skip
        refine wp_go rfl rfl ?_
        refine wp_go rfl rfl ?_
        refine e_bastE (p := t) rfl H79 ⟨by omega, by omega⟩ (by omega) ?_
        exact (by rw [show clp (o2 (if x = 21 then 21 else 20) (tr t) (tr (t + 1))) = 1 by rw [if_neg (by omega)]; show clp (if 0 < tr t + tr (t + 1) then 1 else 0) = _; split <;> first | rfl | (exfalso; omega)] at k; exact k)
  · skip
    refine wp_go rfl rfl ?_
    refine e_get rfl H71 rfl rfl ?_
    refine wp_go rfl rfl ?_
    refine wp_go rfl rfl ?_
    refine e_isub rfl (by omega) ?_
    refine e_baldE (p := t) rfl H79 ⟨by omega, by omega⟩ ?_
    refine e_ifeq rfl (fun c351 => ?_) (fun c351 => ?_)
    · skip
      refine wp_go rfl rfl ?_
      refine wp_go rfl rfl ?_
      refine e_bastE (p := t) rfl H79 ⟨by omega, by omega⟩ (by omega) ?_
      exact (by rw [show clp (o2 (if x = 21 then 21 else 20) (tr t) (tr (t + 1))) = 0 by rw [if_pos (by omega)]; show clp (if 1 < tr t + tr (t + 1) then 1 else 0) = _; split <;> first | rfl | (exfalso; omega)] at k; exact k)
    · skip
      refine wp_go rfl rfl ?_
      refine e_get rfl H71 rfl rfl ?_
      refine wp_go rfl rfl ?_
      refine e_baldE (p := t + 1) rfl H79 ⟨by omega, by omega⟩ ?_
      refine e_ifeq rfl (fun c361 => ?_) (fun c361 => ?_)
      · skip
        refine wp_go rfl rfl ?_
        refine wp_go rfl rfl ?_
        refine e_bastE (p := t) rfl H79 ⟨by omega, by omega⟩ (by omega) ?_
        exact (by rw [show clp (o2 (if x = 21 then 21 else 20) (tr t) (tr (t + 1))) = 0 by rw [if_pos (by omega)]; show clp (if 1 < tr t + tr (t + 1) then 1 else 0) = _; split <;> first | rfl | (exfalso; omega)] at k; exact k)
      · skip
        refine wp_go rfl rfl ?_
        refine wp_go rfl rfl ?_
        refine e_bastE (p := t) rfl H79 ⟨by omega, by omega⟩ (by omega) ?_
        exact (by rw [show clp (o2 (if x = 21 then 21 else 20) (tr t) (tr (t + 1))) = 1 by rw [if_pos (by omega)]; show clp (if 1 < tr t + tr (t + 1) then 1 else 0) = _; split <;> first | rfl | (exfalso; omega)] at k; exact k)
