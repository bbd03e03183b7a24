/-! the reference: who can marry whom; freeing -/
set_option maxRecDepth 100000 in
theorem l_mcan {d : Nat} {h : hc_H} {Q : List hc_V → hc_H → Prop} {nf c : Nat} {i : Int} {s A pt : Nat → Int} (hn : nf ≤ 8) (h0 : A 0 = (nf : Int)) (H71 : h.2.2 71 = mo s) (H72 : h.2.2 72 = ar 456 A) (H84 : h.2.2 84 = ar 8 pt) (kt : (∀ q : Nat, q < nf → pt q ≠ (q : Int)) → Q [xI 1] h) (kf : (∃ q : Nat, q < nf ∧ pt q = (q : Int)) → Q [xI 0] h) : ∀ (n j : Nat), (j ≤ nf ∧ nf < j + n) → (∀ q : Nat, q < j → pt q ≠ (q : Int)) → hc_wp d mX10_canMarry 45 [xR 71, xI i, xI (c : Int), xI (j : Int)] [] h Q := by
  intro n
  induction n with
  | zero =>
    intro j hj
    exact absurd hj (by omega)
  | succ n ih =>
    intro j hj hall
    refine wp_go rfl rfl ?_
    refine wp_go rfl rfl ?_
    refine e_get rfl H71 rfl rfl ?_
    refine wp_go rfl rfl ?_
    refine e_aldE (p := 0) rfl H72 rfl ⟨by omega, by omega⟩ ?_
    rw [h0]
    refine e_cge rfl (fun c52 => ?_) (fun c52 => ?_)
    · skip
      refine wp_go rfl rfl ?_
      refine wp_ret rfl rfl ?_
      exact kt (fun q hq => hall q (by omega))
    · skip
      refine wp_go rfl rfl ?_
      refine e_get rfl H71 rfl rfl ?_
      refine wp_go rfl rfl ?_
      refine e_aldE (p := j) rfl H84 rfl ⟨by omega, by omega⟩ ?_
      refine wp_go rfl rfl ?_
      refine e_cne rfl (fun c62 => ?_) (fun c62 => ?_)
      · skip
        refine e_inc (L' := [xR 71, xI i, xI (c : Int), xI ((j : Int) + 1)]) rfl rfl (by omega) rfl ?_
        refine wp_go rfl rfl ?_
        refine ih (j + 1) (by omega) (fun q hq => ?_)
        by_cases z : q = j
        · rw [z]
          omega
        · exact hall q (by omega)
      · skip
        refine wp_go rfl rfl ?_
        refine wp_ret rfl rfl ?_
        exact kf ⟨j, by omega, by omega⟩
set_option maxRecDepth 100000 in
theorem c_mcan {d : Nat} {h : hc_H} {Q : List hc_V → hc_H → Prop} {nf c : Nat} {i : Int} {s A pt : Nat → Int} (hn : nf ≤ 8) (h0 : A 0 = (nf : Int)) (H71 : h.2.2 71 = mo s) (H72 : h.2.2 72 = ar 456 A) (H84 : h.2.2 84 = ar 8 pt) (kt : (((c : Nat) < nf ∧ i < (c : Int) ∧ pt c < 0) ∨ (nf ≤ c ∧ nf % 2 = 1 ∧ ∀ q : Nat, q < nf → pt q ≠ (q : Int))) → Q [xI 1] h) (kf : ¬ (((c : Nat) < nf ∧ i < (c : Int) ∧ pt c < 0) ∨ (nf ≤ c ∧ nf % 2 = 1 ∧ ∀ q : Nat, q < nf → pt q ≠ (q : Int))) → Q [xI 0] h) : hc_wp d mX10_canMarry 0 [xR 71, xI i, xI (c : Int), none] [] h Q := by
  refine wp_go rfl rfl ?_
  refine wp_go rfl rfl ?_
  refine e_get rfl H71 rfl rfl ?_
  refine wp_go rfl rfl ?_
  refine e_aldE (p := 0) rfl H72 rfl ⟨by omega, by omega⟩ ?_
  rw [h0]
  refine e_cge rfl (fun c7 => ?_) (fun c7 => ?_)
  · skip
    refine wp_go rfl rfl ?_
    refine e_get rfl H71 rfl rfl ?_
    refine wp_go rfl rfl ?_
    refine e_aldE (p := 0) rfl H72 rfl ⟨by omega, by omega⟩ ?_
    rw [h0]
    refine wp_go rfl rfl ?_
    refine e_irem rfl (by omega) ?_
    rw [show Int.tmod (nf : Int) 2 = ((nf % 2 : Nat) : Int) from rfl]
    refine e_ifne rfl (fun c38 => ?_) (fun c38 => ?_)
    · skip
      refine wp_go rfl rfl ?_
      refine e_istn (L' := [xR 71, xI i, xI (c : Int), xI 0]) rfl rfl rfl ?_
      exact l_mcan hn h0 H71 H72 H84 (fun z => kt (Or.inr ⟨by omega, by omega, z⟩)) (fun z => kf (fun y => by
        obtain ⟨q, z1, z2⟩ := z
        rcases y with y | y
        · omega
        · exact y.2.2 q z1 z2)) (nf + 1) 0 (by omega) (fun q hq => absurd hq (by omega))
    · skip
      refine wp_go rfl rfl ?_
      refine wp_ret rfl rfl ?_
      exact kf (fun z => by rcases z with z | z <;> omega)
  · skip
    refine wp_go rfl rfl ?_
    refine wp_go rfl rfl ?_
    refine e_cle rfl (fun c12 => ?_) (fun c12 => ?_)
    · skip
      refine wp_go rfl rfl ?_
      refine wp_ret rfl rfl ?_
      exact kf (fun z => by rcases z with z | z <;> omega)
    · skip
      refine wp_go rfl rfl ?_
      refine e_get rfl H71 rfl rfl ?_
      refine wp_go rfl rfl ?_
      refine e_aldE (p := c) rfl H84 rfl ⟨by omega, by omega⟩ ?_
      refine e_ifge rfl (fun c21 => ?_) (fun c21 => ?_)
      · skip
        refine wp_go rfl rfl ?_
        refine wp_ret rfl rfl ?_
        exact kf (fun z => by rcases z with z | z <;> omega)
      · skip
        refine wp_go rfl rfl ?_
        refine wp_go rfl rfl ?_
        refine wp_ret rfl rfl ?_
        exact kt (Or.inl ⟨by omega, by omega, by omega⟩)
set_option maxRecDepth 100000 in
theorem c_mfree {d : Nat} {h : hc_H} {Q : List hc_V → hc_H → Prop} {i : Nat} {s pt : Nat → Int} (hi : i < 8) (hp : pt i < 8) (H71 : h.2.2 71 = mo s) (H84 : h.2.2 84 = ar 8 pt) (kf : pt i < 0 → Q [] h) (kt : 0 ≤ pt i → ∀ h2, h2.2.2 84 = ar 8 (hc_u (hc_u pt (Int.toNat (pt i)) (-1)) i (-1)) → Fr [84] h h2 → Q [] h2) : hc_wp d mX10_free 0 [xR 71, xI (i : Int), none] [] h Q := by
  refine wp_go rfl rfl ?_
  refine e_get rfl H71 rfl rfl ?_
  refine wp_go rfl rfl ?_
  refine e_aldE (p := i) rfl H84 rfl ⟨by omega, by omega⟩ ?_
  refine e_istn (L' := [xR 71, xI (i : Int), xI (pt i)]) rfl rfl rfl ?_
  refine wp_go rfl rfl ?_
  refine e_ifge rfl (fun c8 => ?_) (fun c8 => ?_)
  · skip
    refine wp_go rfl rfl ?_
    refine e_get rfl H71 rfl rfl ?_
    refine wp_go rfl rfl ?_
    refine wp_go rfl rfl ?_
    refine e_iastE (p := Int.toNat (pt i)) rfl H84 ⟨by omega, by omega⟩ ?_
    refine wp_go rfl rfl ?_
    refine e_get rfl H71 rfl rfl ?_
    refine wp_go rfl rfl ?_
    refine wp_go rfl rfl ?_
    refine e_iastE (p := i) rfl rfl ⟨by omega, by omega⟩ ?_
    refine wp_ret rfl rfl ?_
    exact kt (by omega) _ rfl ((Fr.rf.wr rfl).wr rfl)
  · skip
    refine wp_ret rfl rfl ?_
    exact kf (by omega)
