/-! THE PURE MACHINE's OWN RULES: a run comes to its end with Q -/
theorem hc_run_succ : ∀ (n d : Nat) (mi : hc_M) (pc : Nat) (L st : List hc_V) (h : hc_H) (r : List hc_V × hc_H), hc_run n d mi pc L st h = some r → hc_run (n + 1) d mi pc L st h = some r := by
  intro n
  induction n with
  | zero => intro d mi pc L st h r e; simp [hc_run] at e
  | succ n ih =>
    intro d mi pc L st h r e
    rw [hc_run] at e ⊢
    cases hg : hc_gt mi.2.2.2.2.2.2.2 pc with
    | none => rw [hg] at e; cases e
    | some I =>
      rw [hg] at e
      simp only at e ⊢
      cases hk : hc_kind d mi.2.2.2.1 pc I L st h with
      | none => rw [hk] at e; cases e
      | some K =>
        rw [hk] at e
        match K, e with
        | .inl q, e => exact e
        | .inr (.inl (pc1, L1, st1, h1)), e => exact ih _ _ _ _ _ _ _ e
        | .inr (.inr (a, vs, nx, rest)), e =>
          cases d with
          | zero => cases e
          | succ d1 =>
            cases hj : hc_gt hc_MT a with
            | none => simp only [hj] at e; cases e
            | some mj =>
              simp only [hj] at e ⊢
              cases hb : Nat.ble (hc_fl vs).length mj.2.2.1 with
              | false => rw [hb] at e; cases e
              | true =>
                rw [hb, cond_true] at e
                rw [cond_true]
                cases e1 : hc_run n d1 mj 0 (hc_ent mj.2.2.1 vs) [] h with
                | none => rw [e1] at e; cases e
                | some q =>
                  rw [e1] at e
                  rw [ih _ _ _ _ _ _ _ e1]
                  exact ih _ _ _ _ _ _ _ e
theorem hc_run_le {n m : Nat} (hnm : n ≤ m) {d : Nat} {mi : hc_M} {pc : Nat} {L st : List hc_V} {h : hc_H} {r : List hc_V × hc_H} (e : hc_run n d mi pc L st h = some r) : hc_run m d mi pc L st h = some r := by
  induction hnm with
  | refl => exact e
  | step _ ih => exact hc_run_succ _ _ _ _ _ _ _ _ ih
def hc_wp (d : Nat) (mi : hc_M) (pc : Nat) (L st : List hc_V) (h : hc_H) (Q : List hc_V → hc_H → Prop) : Prop := ∃ n v h', hc_run n d mi pc L st h = some (v, h') ∧ Q v h'
section WP
variable {d : Nat} {mi : hc_M} {pc nx a b w u : Nat} {L st : List hc_V} {h : hc_H} {Q : List hc_V → hc_H → Prop}
theorem wp_go {I : hc_I} {pc' : Nat} {L' st' : List hc_V} {h' : hc_H} (hc : hc_gt mi.2.2.2.2.2.2.2 pc = some I) (hk : hc_kind d mi.2.2.2.1 pc I L st h = some (.inr (.inl (pc', L', st', h')))) (k : hc_wp d mi pc' L' st' h' Q) : hc_wp d mi pc L st h Q := by
  obtain ⟨n, v, h2, e, q⟩ := k
  refine ⟨n + 1, v, h2, ?_, q⟩
  rw [hc_run, hc]
  simp only [hk]
  exact e
theorem wp_ret {I : hc_I} {v : List hc_V} {h' : hc_H} (hc : hc_gt mi.2.2.2.2.2.2.2 pc = some I) (hk : hc_kind d mi.2.2.2.1 pc I L st h = some (.inl (v, h'))) (q : Q v h') : hc_wp d mi pc L st h Q := by
  refine ⟨1, v, h', ?_, q⟩
  rw [hc_run, hc]
  simp only [hk]
theorem wp_call {I : hc_I} {a nx : Nat} {vs rest : List hc_V} {mj : hc_M} (hc : hc_gt mi.2.2.2.2.2.2.2 pc = some I) (hk : hc_kind (d + 1) mi.2.2.2.1 pc I L st h = some (.inr (.inr (a, vs, nx, rest)))) (hj : hc_gt hc_MT a = some mj) (hl : Nat.ble (hc_fl vs).length mj.2.2.1 = true) (k : hc_wp d mj 0 (hc_ent mj.2.2.1 vs) [] h (fun v h' => hc_wp (d + 1) mi nx L (v ++ rest) h' Q)) : hc_wp (d + 1) mi pc L st h Q := by
  obtain ⟨n, v1, h1, e1, n2, v, h2, e, q⟩ := k
  refine ⟨max n n2 + 1, v, h2, ?_, q⟩
  rw [hc_run, hc]
  simp only [hk, hj, hl, cond_true]
  rw [hc_run_le (Nat.le_max_left n n2) e1]
  exact hc_run_le (Nat.le_max_right n n2) e
theorem wp_mono {Q' : List hc_V → hc_H → Prop} (k : hc_wp d mi pc L st h Q) (hq : ∀ v h', Q v h' → Q' v h') : hc_wp d mi pc L st h Q' := by
  obtain ⟨n, v, h2, e, q⟩ := k
  exact ⟨n, v, h2, e, hq _ _ q⟩
abbrev hc_c (mi : hc_M) : List hc_I := mi.2.2.2.2.2.2.2
/-! arithmetic: the result must fit -/
theorem e_iadd {x y : Int} (hc : hc_gt (hc_c mi) pc = some (nx, .iadd, a, b, w, u)) (hr : -2147483648 ≤ x + y ∧ x + y ≤ 2147483647) (k : hc_wp d mi nx L (xI (x + y) :: st) h Q) : hc_wp d mi pc L (xI y :: xI x :: st) h Q :=
  wp_go hc (by simp only [hc_kind, hc_b2, hc_p, if_pos hr, hc_go]) k
theorem e_isub {x y : Int} (hc : hc_gt (hc_c mi) pc = some (nx, .isub, a, b, w, u)) (hr : -2147483648 ≤ x - y ∧ x - y ≤ 2147483647) (k : hc_wp d mi nx L (xI (x - y) :: st) h Q) : hc_wp d mi pc L (xI y :: xI x :: st) h Q :=
  wp_go hc (by simp only [hc_kind, hc_b2, hc_p, if_pos hr, hc_go]) k
theorem e_imul {x y : Int} (hc : hc_gt (hc_c mi) pc = some (nx, .imul, a, b, w, u)) (hr : -2147483648 ≤ x * y ∧ x * y ≤ 2147483647) (k : hc_wp d mi nx L (xI (x * y) :: st) h Q) : hc_wp d mi pc L (xI y :: xI x :: st) h Q :=
  wp_go hc (by simp only [hc_kind, hc_b2, hc_p, if_pos hr, hc_go]) k
theorem e_idiv {x y : Int} (hc : hc_gt (hc_c mi) pc = some (nx, .idiv, a, b, w, u)) (hy : ¬ y = 0) (hr : -2147483648 ≤ x.tdiv y ∧ x.tdiv y ≤ 2147483647) (k : hc_wp d mi nx L (xI (x.tdiv y) :: st) h Q) : hc_wp d mi pc L (xI y :: xI x :: st) h Q :=
  wp_go hc (by simp only [hc_kind, hc_dv, hc_p, if_neg hy, if_pos hr, hc_go]) k
theorem e_irem {x y : Int} (hc : hc_gt (hc_c mi) pc = some (nx, .irem, a, b, w, u)) (hy : ¬ y = 0) (k : hc_wp d mi nx L (xI (x.tmod y) :: st) h Q) : hc_wp d mi pc L (xI y :: xI x :: st) h Q :=
  wp_go hc (by simp only [hc_kind, hc_rm, if_neg hy, hc_go]) k
theorem e_ineg {x : Int} (hc : hc_gt (hc_c mi) pc = some (nx, .ineg, a, b, w, u)) (hr : -2147483648 ≤ -x ∧ -x ≤ 2147483647) (k : hc_wp d mi nx L (xI (-x) :: st) h Q) : hc_wp d mi pc L (xI x :: st) h Q :=
  wp_go hc (by simp only [hc_kind, hc_u1, hc_p, if_pos hr, hc_go]) k
theorem e_ladd {x y : Int} (hc : hc_gt (hc_c mi) pc = some (nx, .ladd, a, b, w, u)) (hr : -9223372036854775808 ≤ x + y ∧ x + y ≤ 9223372036854775807) (k : hc_wp d mi nx L (xL (x + y) :: st) h Q) : hc_wp d mi pc L (xL y :: xL x :: st) h Q :=
  wp_go hc (by simp only [hc_kind, hc_l2, hc_q, if_pos hr, hc_go]) k
theorem e_lsub {x y : Int} (hc : hc_gt (hc_c mi) pc = some (nx, .lsub, a, b, w, u)) (hr : -9223372036854775808 ≤ x - y ∧ x - y ≤ 9223372036854775807) (k : hc_wp d mi nx L (xL (x - y) :: st) h Q) : hc_wp d mi pc L (xL y :: xL x :: st) h Q :=
  wp_go hc (by simp only [hc_kind, hc_l2, hc_q, if_pos hr, hc_go]) k
theorem e_lmul {x y : Int} (hc : hc_gt (hc_c mi) pc = some (nx, .lmul, a, b, w, u)) (hr : -9223372036854775808 ≤ x * y ∧ x * y ≤ 9223372036854775807) (k : hc_wp d mi nx L (xL (x * y) :: st) h Q) : hc_wp d mi pc L (xL y :: xL x :: st) h Q :=
  wp_go hc (by simp only [hc_kind, hc_l2, hc_q, if_pos hr, hc_go]) k
theorem e_ldiv {x y : Int} (hc : hc_gt (hc_c mi) pc = some (nx, .ldiv, a, b, w, u)) (hy : ¬ y = 0) (hr : -9223372036854775808 ≤ x.tdiv y ∧ x.tdiv y ≤ 9223372036854775807) (k : hc_wp d mi nx L (xL (x.tdiv y) :: st) h Q) : hc_wp d mi pc L (xL y :: xL x :: st) h Q :=
  wp_go hc (by simp only [hc_kind, hc_ldv, hc_q, if_neg hy, if_pos hr, hc_go]) k
theorem e_lrem {x y : Int} (hc : hc_gt (hc_c mi) pc = some (nx, .lrem, a, b, w, u)) (hy : ¬ y = 0) (k : hc_wp d mi nx L (xL (x.tmod y) :: st) h Q) : hc_wp d mi pc L (xL y :: xL x :: st) h Q :=
  wp_go hc (by simp only [hc_kind, hc_lrm, if_neg hy, hc_go]) k
theorem e_lneg {x : Int} (hc : hc_gt (hc_c mi) pc = some (nx, .lneg, a, b, w, u)) (hr : -9223372036854775808 ≤ -x ∧ -x ≤ 9223372036854775807) (k : hc_wp d mi nx L (xL (-x) :: st) h Q) : hc_wp d mi pc L (xL x :: st) h Q :=
  wp_go hc (by simp only [hc_kind, hc_ul, hc_q, if_pos hr, hc_go]) k
/-! locals -/
theorem e_ist {L' : List hc_V} {x : Int} {i : Nat} (hc : hc_gt (hc_c mi) pc = some (nx, .istore i, a, b, w, u)) (hi : Nat.blt i L.length = true) (hL : hc_st1 L i (xI x) = L') (k : hc_wp d mi nx L' st h Q) : hc_wp d mi pc L (xI x :: st) h Q :=
  wp_go hc (by rw [Nat.blt_eq] at hi; simp only [hc_kind, hc_sti, if_pos hi, hL, hc_go]) k
theorem e_istn {L' : List hc_V} {x : Int} {i : Fin 4} (hc : hc_gt (hc_c mi) pc = some (nx, .istore_n i, a, b, w, u)) (hi : Nat.blt i.val L.length = true) (hL : hc_st1 L i.val (xI x) = L') (k : hc_wp d mi nx L' st h Q) : hc_wp d mi pc L (xI x :: st) h Q :=
  wp_go hc (by rw [Nat.blt_eq] at hi; simp only [hc_kind, hc_sti, if_pos hi, hL, hc_go]) k
theorem e_ast {L' : List hc_V} {r : Option Nat} {i : Nat} (hc : hc_gt (hc_c mi) pc = some (nx, .astore i, a, b, w, u)) (hi : Nat.blt i L.length = true) (hL : hc_st1 L i (xQ r) = L') (k : hc_wp d mi nx L' st h Q) : hc_wp d mi pc L (xQ r :: st) h Q :=
  wp_go hc (by rw [Nat.blt_eq] at hi; simp only [hc_kind, hc_sta, if_pos hi, hL, hc_go]) k
theorem e_astn {L' : List hc_V} {r : Option Nat} {i : Fin 4} (hc : hc_gt (hc_c mi) pc = some (nx, .astore_n i, a, b, w, u)) (hi : Nat.blt i.val L.length = true) (hL : hc_st1 L i.val (xQ r) = L') (k : hc_wp d mi nx L' st h Q) : hc_wp d mi pc L (xQ r :: st) h Q :=
  wp_go hc (by rw [Nat.blt_eq] at hi; simp only [hc_kind, hc_sta, if_pos hi, hL, hc_go]) k
theorem e_lst {L' : List hc_V} {x : Int} {i : Nat} (hc : hc_gt (hc_c mi) pc = some (nx, .lstore i, a, b, w, u)) (hi : Nat.blt (i + 1) L.length = true) (hL : hc_st2 L i (xL x) = L') (k : hc_wp d mi nx L' st h Q) : hc_wp d mi pc L (xL x :: st) h Q :=
  wp_go hc (by rw [Nat.blt_eq] at hi; simp only [hc_kind, hc_stl, if_pos hi, hL, hc_go]) k
theorem e_lstn {L' : List hc_V} {x : Int} {i : Fin 4} (hc : hc_gt (hc_c mi) pc = some (nx, .lstore_n i, a, b, w, u)) (hi : Nat.blt (i.val + 1) L.length = true) (hL : hc_st2 L i.val (xL x) = L') (k : hc_wp d mi nx L' st h Q) : hc_wp d mi pc L (xL x :: st) h Q :=
  wp_go hc (by rw [Nat.blt_eq] at hi; simp only [hc_kind, hc_stl, if_pos hi, hL, hc_go]) k
theorem e_inc {L' : List hc_V} {x n : Int} {i : Nat} (hc : hc_gt (hc_c mi) pc = some (nx, .iinc i n, a, b, w, u)) (hl : hc_gt L i = some (xI x)) (hr : -2147483648 ≤ x + n ∧ x + n ≤ 2147483647) (hL : hc_st1 L i (xI (x + n)) = L') (k : hc_wp d mi nx L' st h Q) : hc_wp d mi pc L st h Q :=
  wp_go hc (by simp only [hc_kind, hc_inc, hl, if_pos hr, hL, hc_go]) k
/-! branches -/
theorem e_ifeq {x off : Int} (hc : hc_gt (hc_c mi) pc = some (nx, .ifCond .eq off, a, b, w, u)) (kt : x = 0 → hc_wp d mi a L st h Q) (kf : ¬ x = 0 → hc_wp d mi nx L st h Q) : hc_wp d mi pc L (xI x :: st) h Q := by
  by_cases q : x = 0
  · exact wp_go hc (by simp only [hc_kind, hc_if, hc_c0, decide_eq_true q, cond_true, hc_go]) (kt q)
  · exact wp_go hc (by simp only [hc_kind, hc_if, hc_c0, decide_eq_false q, cond_false, hc_go]) (kf q)
theorem e_ifne {x off : Int} (hc : hc_gt (hc_c mi) pc = some (nx, .ifCond .ne off, a, b, w, u)) (kt : ¬ x = 0 → hc_wp d mi a L st h Q) (kf : x = 0 → hc_wp d mi nx L st h Q) : hc_wp d mi pc L (xI x :: st) h Q := by
  by_cases q : x = 0
  · exact wp_go hc (by simp only [hc_kind, hc_if, hc_c0, decide_eq_false (not_not_intro q), cond_false, hc_go]) (kf q)
  · exact wp_go hc (by simp only [hc_kind, hc_if, hc_c0, decide_eq_true q, cond_true, hc_go]) (kt q)
theorem e_iflt {x off : Int} (hc : hc_gt (hc_c mi) pc = some (nx, .ifCond .lt off, a, b, w, u)) (kt : x < 0 → hc_wp d mi a L st h Q) (kf : ¬ x < 0 → hc_wp d mi nx L st h Q) : hc_wp d mi pc L (xI x :: st) h Q := by
  by_cases q : x < 0
  · exact wp_go hc (by simp only [hc_kind, hc_if, hc_c0, decide_eq_true q, cond_true, hc_go]) (kt q)
  · exact wp_go hc (by simp only [hc_kind, hc_if, hc_c0, decide_eq_false q, cond_false, hc_go]) (kf q)
theorem e_ifge {x off : Int} (hc : hc_gt (hc_c mi) pc = some (nx, .ifCond .ge off, a, b, w, u)) (kt : 0 ≤ x → hc_wp d mi a L st h Q) (kf : ¬ 0 ≤ x → hc_wp d mi nx L st h Q) : hc_wp d mi pc L (xI x :: st) h Q := by
  by_cases q : 0 ≤ x
  · exact wp_go hc (by simp only [hc_kind, hc_if, hc_c0, decide_eq_true q, cond_true, hc_go]) (kt q)
  · exact wp_go hc (by simp only [hc_kind, hc_if, hc_c0, decide_eq_false q, cond_false, hc_go]) (kf q)
theorem e_ifgt {x off : Int} (hc : hc_gt (hc_c mi) pc = some (nx, .ifCond .gt off, a, b, w, u)) (kt : 0 < x → hc_wp d mi a L st h Q) (kf : ¬ 0 < x → hc_wp d mi nx L st h Q) : hc_wp d mi pc L (xI x :: st) h Q := by
  by_cases q : 0 < x
  · exact wp_go hc (by simp only [hc_kind, hc_if, hc_c0, decide_eq_true q, cond_true, hc_go]) (kt q)
  · exact wp_go hc (by simp only [hc_kind, hc_if, hc_c0, decide_eq_false q, cond_false, hc_go]) (kf q)
theorem e_ifle {x off : Int} (hc : hc_gt (hc_c mi) pc = some (nx, .ifCond .le off, a, b, w, u)) (kt : x ≤ 0 → hc_wp d mi a L st h Q) (kf : ¬ x ≤ 0 → hc_wp d mi nx L st h Q) : hc_wp d mi pc L (xI x :: st) h Q := by
  by_cases q : x ≤ 0
  · exact wp_go hc (by simp only [hc_kind, hc_if, hc_c0, decide_eq_true q, cond_true, hc_go]) (kt q)
  · exact wp_go hc (by simp only [hc_kind, hc_if, hc_c0, decide_eq_false q, cond_false, hc_go]) (kf q)
theorem e_ceq {x y off : Int} (hc : hc_gt (hc_c mi) pc = some (nx, .if_icmp .eq off, a, b, w, u)) (kt : x = y → hc_wp d mi a L st h Q) (kf : ¬ x = y → hc_wp d mi nx L st h Q) : hc_wp d mi pc L (xI y :: xI x :: st) h Q := by
  by_cases q : x = y
  · exact wp_go hc (by simp only [hc_kind, hc_icmp, hc_c0, decide_eq_true q, cond_true, hc_go]) (kt q)
  · exact wp_go hc (by simp only [hc_kind, hc_icmp, hc_c0, decide_eq_false q, cond_false, hc_go]) (kf q)
theorem e_cne {x y off : Int} (hc : hc_gt (hc_c mi) pc = some (nx, .if_icmp .ne off, a, b, w, u)) (kt : ¬ x = y → hc_wp d mi a L st h Q) (kf : x = y → hc_wp d mi nx L st h Q) : hc_wp d mi pc L (xI y :: xI x :: st) h Q := by
  by_cases q : x = y
  · exact wp_go hc (by simp only [hc_kind, hc_icmp, hc_c0, decide_eq_false (not_not_intro q), cond_false, hc_go]) (kf q)
  · exact wp_go hc (by simp only [hc_kind, hc_icmp, hc_c0, decide_eq_true q, cond_true, hc_go]) (kt q)
theorem e_clt {x y off : Int} (hc : hc_gt (hc_c mi) pc = some (nx, .if_icmp .lt off, a, b, w, u)) (kt : x < y → hc_wp d mi a L st h Q) (kf : ¬ x < y → hc_wp d mi nx L st h Q) : hc_wp d mi pc L (xI y :: xI x :: st) h Q := by
  by_cases q : x < y
  · exact wp_go hc (by simp only [hc_kind, hc_icmp, hc_c0, decide_eq_true q, cond_true, hc_go]) (kt q)
  · exact wp_go hc (by simp only [hc_kind, hc_icmp, hc_c0, decide_eq_false q, cond_false, hc_go]) (kf q)
theorem e_cge {x y off : Int} (hc : hc_gt (hc_c mi) pc = some (nx, .if_icmp .ge off, a, b, w, u)) (kt : y ≤ x → hc_wp d mi a L st h Q) (kf : ¬ y ≤ x → hc_wp d mi nx L st h Q) : hc_wp d mi pc L (xI y :: xI x :: st) h Q := by
  by_cases q : y ≤ x
  · exact wp_go hc (by simp only [hc_kind, hc_icmp, hc_c0, decide_eq_true q, cond_true, hc_go]) (kt q)
  · exact wp_go hc (by simp only [hc_kind, hc_icmp, hc_c0, decide_eq_false q, cond_false, hc_go]) (kf q)
theorem e_cgt {x y off : Int} (hc : hc_gt (hc_c mi) pc = some (nx, .if_icmp .gt off, a, b, w, u)) (kt : y < x → hc_wp d mi a L st h Q) (kf : ¬ y < x → hc_wp d mi nx L st h Q) : hc_wp d mi pc L (xI y :: xI x :: st) h Q := by
  by_cases q : y < x
  · exact wp_go hc (by simp only [hc_kind, hc_icmp, hc_c0, decide_eq_true q, cond_true, hc_go]) (kt q)
  · exact wp_go hc (by simp only [hc_kind, hc_icmp, hc_c0, decide_eq_false q, cond_false, hc_go]) (kf q)
theorem e_cle {x y off : Int} (hc : hc_gt (hc_c mi) pc = some (nx, .if_icmp .le off, a, b, w, u)) (kt : x ≤ y → hc_wp d mi a L st h Q) (kf : ¬ x ≤ y → hc_wp d mi nx L st h Q) : hc_wp d mi pc L (xI y :: xI x :: st) h Q := by
  by_cases q : x ≤ y
  · exact wp_go hc (by simp only [hc_kind, hc_icmp, hc_c0, decide_eq_true q, cond_true, hc_go]) (kt q)
  · exact wp_go hc (by simp only [hc_kind, hc_icmp, hc_c0, decide_eq_false q, cond_false, hc_go]) (kf q)
/-! the heap -/
theorem e_get {r ci i : Nat} {fs : List hc_V} {v : hc_V} (hc : hc_gt (hc_c mi) pc = some (nx, .getfield i, a, b, w, u)) (hh : h.2.2 r = .inr (ci, fs)) (ha : Nat.beq ci a = true) (hf : hc_gt fs b = some v) (k : hc_wp d mi nx L (v :: st) h Q) : hc_wp d mi pc L (xR r :: st) h Q :=
  wp_go hc (by simp only [hc_kind, hc_getf, hh, ha, cond_true, hf, hc_go]) k
theorem e_put {r ci i : Nat} {fs fs' : List hc_V} {v : hc_V} (hc : hc_gt (hc_c mi) pc = some (nx, .putfield i, a, b, w, u)) (hh : h.2.2 r = .inr (ci, fs)) (ha : (Nat.beq ci a && hc_fit (u / 4) v && Nat.blt b fs.length) = true) (hf : hc_set fs b v = fs') (k : hc_wp d mi nx L st (hc_wr h r (.inr (ci, fs'))) Q) : hc_wp d mi pc L (v :: xR r :: st) h Q :=
  wp_go hc (by simp only [hc_kind, hc_putf, hh, ha, cond_true, hf, hc_go]) k
theorem e_ald {r n t : Nat} {f : Nat → Int} {i : Int} (hc : hc_gt (hc_c mi) pc = some (nx, .iaload, a, b, w, u)) (hh : h.2.2 r = .inl (t, n, .inl f)) (ht : (Nat.beq t 0 || Nat.beq t 9) = true) (hi : 0 ≤ i ∧ i < (n : Int)) (k : hc_wp d mi nx L (xI (f i.toNat) :: st) h Q) : hc_wp d mi pc L (xI i :: xR r :: st) h Q :=
  wp_go hc (by simp only [hc_kind, hc_ald, hh, ht, cond_true, if_pos hi, hc_go]) k
theorem e_lald {r n : Nat} {f : Nat → Int} {i : Int} (hc : hc_gt (hc_c mi) pc = some (nx, .laload, a, b, w, u)) (hh : h.2.2 r = .inl (1, n, .inl f)) (hi : 0 ≤ i ∧ i < (n : Int)) (k : hc_wp d mi nx L (xL (f i.toNat) :: st) h Q) : hc_wp d mi pc L (xI i :: xR r :: st) h Q :=
  wp_go hc (by simp only [hc_kind, hc_lald, hh, show Nat.beq 1 1 = true from rfl, cond_true, if_pos hi, hc_go]) k
theorem e_bald {r n : Nat} {f : Nat → Int} {i : Int} (hc : hc_gt (hc_c mi) pc = some (nx, .baload, a, b, w, u)) (hh : h.2.2 r = .inl (2, n, .inl f)) (hi : 0 ≤ i ∧ i < (n : Int)) (k : hc_wp d mi nx L (xI (f i.toNat) :: st) h Q) : hc_wp d mi pc L (xI i :: xR r :: st) h Q :=
  wp_go hc (by simp only [hc_kind, hc_bald, hh, show Nat.beq 2 2 = true from rfl, cond_true, if_pos hi, hc_go]) k
theorem e_aald {r n : Nat} {f : Nat → Option Nat} {i : Int} (hc : hc_gt (hc_c mi) pc = some (nx, .aaload, a, b, w, u)) (hh : h.2.2 r = .inl (3, n, .inr f)) (hi : 0 ≤ i ∧ i < (n : Int)) (k : hc_wp d mi nx L (xQ (f i.toNat) :: st) h Q) : hc_wp d mi pc L (xI i :: xR r :: st) h Q :=
  wp_go hc (by simp only [hc_kind, hc_aald, hh, show Nat.beq 3 3 = true from rfl, cond_true, if_pos hi, hc_go]) k
theorem e_iast {r n : Nat} {f : Nat → Int} {i x : Int} (hc : hc_gt (hc_c mi) pc = some (nx, .iastore, a, b, w, u)) (hh : h.2.2 r = .inl (0, n, .inl f)) (hi : 0 ≤ i ∧ i < (n : Int)) (k : hc_wp d mi nx L st (hc_wr h r (.inl (0, n, .inl (hc_u f i.toNat x)))) Q) : hc_wp d mi pc L (xI x :: xI i :: xR r :: st) h Q :=
  wp_go hc (by simp only [hc_kind, hc_ast, hh, show Nat.beq 0 0 = true from rfl, cond_true, if_pos hi, hc_go]) k
theorem e_last {r n : Nat} {f : Nat → Int} {i x : Int} (hc : hc_gt (hc_c mi) pc = some (nx, .lastore, a, b, w, u)) (hh : h.2.2 r = .inl (1, n, .inl f)) (hi : 0 ≤ i ∧ i < (n : Int)) (k : hc_wp d mi nx L st (hc_wr h r (.inl (1, n, .inl (hc_u f i.toNat x)))) Q) : hc_wp d mi pc L (xL x :: xI i :: xR r :: st) h Q :=
  wp_go hc (by simp only [hc_kind, hc_last, hh, show Nat.beq 1 1 = true from rfl, cond_true, if_pos hi, hc_go]) k
theorem e_bast {r n : Nat} {f : Nat → Int} {i x : Int} (hc : hc_gt (hc_c mi) pc = some (nx, .bastore, a, b, w, u)) (hh : h.2.2 r = .inl (2, n, .inl f)) (hi : (0 ≤ i ∧ i < (n : Int)) ∧ (x = 0 ∨ x = 1)) (k : hc_wp d mi nx L st (hc_wr h r (.inl (2, n, .inl (hc_u f i.toNat x)))) Q) : hc_wp d mi pc L (xI x :: xI i :: xR r :: st) h Q :=
  wp_go hc (by simp only [hc_kind, hc_bast, hh, show Nat.beq 2 2 = true from rfl, cond_true, if_pos hi, hc_go]) k
theorem e_aast {r n : Nat} {f : Nat → Option Nat} {i : Int} {q : Option Nat} (hc : hc_gt (hc_c mi) pc = some (nx, .aastore, a, b, w, u)) (hh : h.2.2 r = .inl (3, n, .inr f)) (hT : hc_isT h q = true) (hi : 0 ≤ i ∧ i < (n : Int)) (k : hc_wp d mi nx L st (hc_wr h r (.inl (3, n, .inr (hc_u f i.toNat q)))) Q) : hc_wp d mi pc L (xQ q :: xI i :: xR r :: st) h Q :=
  wp_go hc (by simp only [hc_kind, hc_aast, hh, hT, show Nat.beq 3 3 = true from rfl, Bool.and_self, cond_true, if_pos hi, hc_go]) k
theorem e_alen {r n t : Nat} {f : (Nat → Int) ⊕ (Nat → Option Nat)} (hc : hc_gt (hc_c mi) pc = some (nx, .arraylength, a, b, w, u)) (hh : h.2.2 r = .inl (t, n, f)) (ht : Nat.beq t 8 = false) (hr : (n : Int) ≤ 2147483647) (k : hc_wp d mi nx L (xI (n : Int) :: st) h Q) : hc_wp d mi pc L (xR r :: st) h Q :=
  wp_go hc (by simp only [hc_kind, hc_len, hh, ht, cond_false, hc_p, if_pos (show -2147483648 ≤ (n : Int) ∧ (n : Int) ≤ 2147483647 from ⟨by omega, hr⟩), hc_go]) k
theorem e_newa {t : Nat} {n : Int} {at_ : ArrayType} (hc : hc_gt (hc_c mi) pc = some (nx, .newarray at_, a, b, w, u)) (hk : hc_aty at_ nx L (xI n :: st) h = hc_newa t nx L (xI n :: st) h) (hn : 0 ≤ n ∧ n ≤ 100000) (k : hc_wp d mi nx L (xR h.1 :: st) (hc_al h n.toNat (.inl (t, n.toNat, .inl (fun _ => 0)))) Q) : hc_wp d mi pc L (xI n :: st) h Q :=
  wp_go hc (by simp only [hc_kind, hk, hc_newa, if_pos hn, hc_go]) k
theorem e_newr {n : Int} {i : Nat} (hc : hc_gt (hc_c mi) pc = some (nx, .anewarray i, a, b, w, u)) (hn : 0 ≤ n ∧ n ≤ 100000) (k : hc_wp d mi nx L (xR h.1 :: st) (hc_al h n.toNat (.inl (3, n.toNat, .inr (fun _ => none)))) Q) : hc_wp d mi pc L (xI n :: st) h Q :=
  wp_go hc (by simp only [hc_kind, hc_newr, if_pos hn, hc_go]) k
theorem e_copy {i r0 r1 n0 n1 : Nat} {f g : Nat → Int} {n dp sp : Int} (hc : hc_gt (hc_c mi) pc = some (nx, .invokestatic i, 1004, b, w, u)) (hz : Nat.ble (hc_sz (xI n :: xI dp :: xR r1 :: xI sp :: xR r0 :: st)) 8 = true) (h0 : h.2.2 r0 = .inl (0, n0, .inl f)) (h1 : h.2.2 r1 = .inl (0, n1, .inl g)) (hi : 0 ≤ n ∧ 0 ≤ dp ∧ 0 ≤ sp ∧ sp + n ≤ (n0 : Int) ∧ dp + n ≤ (n1 : Int)) (k : hc_wp (d + 1) mi nx L st (hc_wr h r1 (.inl (0, n1, .inl (hc_cpy f g sp.toNat dp.toNat n.toNat)))) Q) : hc_wp (d + 1) mi pc L (xI n :: xI dp :: xR r1 :: xI sp :: xR r0 :: st) h Q :=
  wp_go hc (by simp only [hc_kind, show Nat.ble 1000 1004 = true from rfl, cond_true, hc_prim, hz, hc_copy, h0, h1, show Nat.beq 0 0 = true from rfl, Bool.and_self, if_pos hi, hc_go]) k
theorem e_slen {i r n : Nat} {f : Nat → Int} (hc : hc_gt (hc_c mi) pc = some (nx, .invokevirtual i, 1006, b, w, u)) (hz : Nat.ble (hc_sz (xR r :: st)) 8 = true) (hh : h.2.2 r = .inl (8, n, .inl f)) (k : hc_wp (d + 4) mi nx L (xI (n : Int) :: st) h Q) : hc_wp (d + 4) mi pc L (xR r :: st) h Q :=
  wp_go hc (by simp only [hc_kind, show Nat.ble 1000 1006 = true from rfl, cond_true, hc_prim, hz, if_pos (show 4 ≤ d + 3 + 1 by omega), hc_slen, hh, show Nat.beq 8 8 = true from rfl, hc_go]) k
theorem e_chat {i r n : Nat} {f : Nat → Int} {j : Int} (hc : hc_gt (hc_c mi) pc = some (nx, .invokevirtual i, 1007, b, w, u)) (hz : Nat.ble (hc_sz (xI j :: xR r :: st)) 8 = true) (hh : h.2.2 r = .inl (8, n, .inl f)) (hi : 0 ≤ j ∧ j < (n : Int)) (k : hc_wp (d + 4) mi nx L (xI (f j.toNat) :: st) h Q) : hc_wp (d + 4) mi pc L (xI j :: xR r :: st) h Q :=
  wp_go hc (by simp only [hc_kind, show Nat.ble 1000 1007 = true from rfl, cond_true, hc_prim, hz, if_pos (show 4 ≤ d + 3 + 1 by omega), hc_chat, hh, show Nat.beq 8 8 = true from rfl, if_pos hi, hc_go]) k
theorem e_abs {i : Nat} {x : Int} (hc : hc_gt (hc_c mi) pc = some (nx, .invokestatic i, 1003, b, w, u)) (hz : Nat.ble (hc_sz (xI x :: st)) 8 = true) (hr : -2147483648 ≤ (if 0 ≤ x then x else 0 - x) ∧ (if 0 ≤ x then x else 0 - x) ≤ 2147483647) (k : hc_wp (d + 1) mi nx L (xI (if 0 ≤ x then x else 0 - x) :: st) h Q) : hc_wp (d + 1) mi pc L (xI x :: st) h Q :=
  wp_go hc (by simp only [hc_kind, show Nat.ble 1000 1003 = true from rfl, cond_true, hc_prim, hz, hc_u1, hc_p, if_pos hr, hc_go]) k
theorem e_ldc {i : Nat} (x : Int) (hc : hc_gt (hc_c mi) pc = some (nx, .ldc i, a, 0, w, u)) (hx : (a : Int) = x) (k : hc_wp d mi nx L (xI x :: st) h Q) : hc_wp d mi pc L st h Q :=
  wp_go hc (by subst hx; rfl) k
theorem e_ldcw {i : Nat} (x : Int) (hc : hc_gt (hc_c mi) pc = some (nx, .ldc_w i, a, b, w, u)) (hx : (a : Int) = x) (k : hc_wp d mi nx L (xI x :: st) h Q) : hc_wp d mi pc L st h Q :=
  wp_go hc (by subst hx; rfl) k
theorem e_ldc2 {i : Nat} (x : Int) (hc : hc_gt (hc_c mi) pc = some (nx, .ldc2_w i, a, 0, w, u)) (hx : (a : Int) = x) (k : hc_wp d mi nx L (xL x :: st) h Q) : hc_wp d mi pc L st h Q :=
  wp_go hc (by subst hx; rfl) k
theorem e_ldc2n {i : Nat} (x : Int) (hc : hc_gt (hc_c mi) pc = some (nx, .ldc2_w i, a, 1, w, u)) (hx : -(a : Int) = x) (k : hc_wp d mi nx L (xL x :: st) h Q) : hc_wp d mi pc L st h Q :=
  wp_go hc (by subst hx; rfl) k
theorem e_lconst {i : Fin 2} (x : Int) (hc : hc_gt (hc_c mi) pc = some (nx, .lconst i, a, b, w, u)) (hx : (i.val : Int) = x) (k : hc_wp d mi nx L (xL x :: st) h Q) : hc_wp d mi pc L st h Q :=
  wp_go hc (by subst hx; rfl) k
/-- virtual calls: the receiver's class -/
theorem wp_cv {i r ci : Nat} {fs vs rest : List hc_V} {mj : hc_M} (hc : hc_gt (hc_c mi) pc = some (nx, .invokevirtual i, a, b, w, u)) (ha : Nat.ble 1000 a = false) (htk : hc_tk b st [] = some (vs, xR r :: rest)) (hh : h.2.2 r = .inr (ci, fs)) (hz : (Nat.beq ci (u / 4) && Nat.ble (hc_sz rest) 8) = true) (hj : hc_gt hc_MT a = some mj) (hl : Nat.ble (hc_fl (xR r :: vs)).length mj.2.2.1 = true) (k : hc_wp d mj 0 (hc_ent mj.2.2.1 (xR r :: vs)) [] h (fun v h' => hc_wp (d + 1) mi nx L (v ++ rest) h' Q)) : hc_wp (d + 1) mi pc L st h Q :=
  wp_call hc (by simp only [hc_kind, ha, cond_false, hc_inv, htk, hh, hz, cond_true]) hj hl k
end WP
