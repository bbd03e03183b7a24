/-! the reference: its tokens -/
def TA (B : Nat → Int) (n : Nat) (s : Nat → Int) (i : Nat) : Prop := s 4 = (n : Int) ∧ s 7 = ((tat B n (i + 1) : Nat) : Int) ∧ s 8 = ((tP B n i : Nat) : Int) ∧ mkd (s 9) (s 11) = tK B n i ∧ (s 9 = 1 → 0 ≤ s 10 ∧ ((s 10 ≤ 9999 ∧ tN B n i = s 10) ∨ (9999 < s 10 ∧ tN B n i = 10000)))
set_option maxRecDepth 100000 in
theorem c_isIn {d : Nat} {h : hc_H} {Q : List hc_V → hc_H → Prop} {v lo hi : Int} (kt : (lo ≤ v ∧ v ≤ hi) → Q [xI 1] h) (kf : ¬ (lo ≤ v ∧ v ≤ hi) → Q [xI 0] h) : hc_wp d mX10_isIn 0 [xI v, xI lo, xI hi] [] h Q := by
  refine wp_go rfl rfl ?_
  refine wp_go rfl rfl ?_
  refine e_clt rfl (fun c2 => ?_) (fun c2 => ?_)
  · skip
    refine wp_go rfl rfl ?_
    refine wp_ret rfl rfl ?_
    exact kf (by omega)
  · skip
    refine wp_go rfl rfl ?_
    refine wp_go rfl rfl ?_
    refine e_cgt rfl (fun c7 => ?_) (fun c7 => ?_)
    · skip
      refine wp_go rfl rfl ?_
      refine wp_ret rfl rfl ?_
      exact kf (by omega)
    · skip
      refine wp_go rfl rfl ?_
      refine wp_go rfl rfl ?_
      refine wp_ret rfl rfl ?_
      exact kt (by omega)
set_option maxRecDepth 100000 in
theorem c_misL {d : Nat} {h : hc_H} {Q : List hc_V → hc_H → Prop} {c : Int} (kt : isLe c = true → Q [xI 1] h) (kf : isLe c = false → Q [xI 0] h) : hc_wp (d + 1) mX10_isLetter 0 [xI c] [] h Q := by
  refine wp_go rfl rfl ?_
  refine wp_go rfl rfl ?_
  refine wp_go rfl rfl ?_
  refine wp_call rfl rfl rfl rfl ?_
  refine c_isIn  (fun q5 => ?_) (fun q5 => ?_)
  · skip
    refine wp_go rfl rfl ?_
    refine wp_go rfl rfl ?_
    refine wp_go rfl rfl ?_
    refine wp_ret rfl rfl ?_
    exact kt (by unfold isLe; simp; omega)
  · skip
    refine wp_go rfl rfl ?_
    refine wp_go rfl rfl ?_
    refine wp_go rfl rfl ?_
    refine wp_go rfl rfl ?_
    refine wp_call rfl rfl rfl rfl ?_
    refine c_isIn  (fun q16 => ?_) (fun q16 => ?_)
    · skip
      refine wp_go rfl rfl ?_
      refine wp_go rfl rfl ?_
      refine wp_go rfl rfl ?_
      refine wp_ret rfl rfl ?_
      exact kt (by unfold isLe; simp; omega)
    · skip
      refine wp_go rfl rfl ?_
      refine wp_go rfl rfl ?_
      refine wp_ret rfl rfl ?_
      exact kf (by unfold isLe; simp; omega)
set_option maxRecDepth 100000 in
theorem c_misD {d : Nat} {h : hc_H} {Q : List hc_V → hc_H → Prop} {c : Int} (kt : isDi c = true → Q [xI 1] h) (kf : isDi c = false → Q [xI 0] h) : hc_wp (d + 1) mX10_isDigit 0 [xI c] [] h Q := by
  refine wp_go rfl rfl ?_
  refine wp_go rfl rfl ?_
  refine wp_go rfl rfl ?_
  refine wp_call rfl rfl rfl rfl ?_
  refine c_isIn  (fun q5 => ?_) (fun q5 => ?_)
  · skip
    refine wp_ret rfl rfl ?_
    exact kt (by unfold isDi; simp; omega)
  · skip
    refine wp_ret rfl rfl ?_
    exact kf (by unfold isDi; simp; omega)
set_option maxRecDepth 100000 in
theorem c_mbyte {d : Nat} {h : hc_H} {Q : List hc_V → hc_H → Prop} {n p : Nat} {B s : Nat → Int} (hn : n ≤ 300) (H71 : h.2.2 71 = mo s) (e4 : s 4 = (n : Int)) (H75 : h.2.2 75 = ar 300 B) (k : Q [xI (bt B n p)] h) : hc_wp d mX10_byteAt 0 [xR 71, xI (p : Int)] [] h Q := by
  refine wp_go rfl rfl ?_
  refine wp_go rfl rfl ?_
  refine e_get rfl H71 rfl rfl ?_
  rw [e4]
  refine e_cge rfl (fun c5 => ?_) (fun c5 => ?_)
  · skip
    refine wp_go rfl rfl ?_
    refine wp_ret rfl rfl ?_
    rw [show bt B n p = -1 from if_neg (by omega)] at k
    exact k
  · skip
    refine wp_go rfl rfl ?_
    refine e_get rfl H71 rfl rfl ?_
    refine wp_go rfl rfl ?_
    refine e_aldE (p := p) rfl H75 rfl ⟨by omega, by omega⟩ ?_
    refine wp_go rfl rfl ?_
    refine wp_ret rfl rfl ?_
    rw [show bt B n p = B p from if_pos (by omega)] at k
    exact k
set_option maxRecDepth 100000 in
theorem l_nt1 {d : Nat} {h0 : hc_H} {Q : List hc_V → hc_H → Prop} {n : Nat} {B s0 : Nat → Int} (hn : n ≤ 300) : ∀ (g q : Nat) (s : Nat → Int) (h : hc_H), h.2.2 71 = mo s → s 4 = (n : Int) → s 7 = (q : Int) → q ≤ n ∧ n ≤ q + g → h.2.2 75 = ar 300 B → ME [7] s0 s → Fr [71] h0 h → (∀ h2 s2, h2.2.2 71 = mo s2 → s2 7 = ((rne isBl B n g q : Nat) : Int) → ME [7] s0 s2 → Fr [71] h0 h2 → hc_wp (d + 2) mX10_nextToken 39 [xR 71, none, none] [] h2 Q) → hc_wp (d + 2) mX10_nextToken 0 [xR 71, none, none] [] h Q := by
  intro g
  induction g with
  | zero =>
    intro q s h H71 e4 e7 hq H75 HM HF k
    have hb : bt B n q = -1 := if_neg (by omega)
    refine wp_go rfl rfl ?_
    refine wp_go rfl rfl ?_
    refine e_get rfl H71 rfl rfl ?_
    rw [e7]
    refine wp_cv rfl rfl rfl H71 rfl rfl rfl ?_
    refine c_mbyte (s := s) (p := q) hn H71 e4 H75 ?_
    refine wp_go rfl rfl ?_
    refine e_ceq rfl (fun c => absurd (hb.symm.trans c) (by decide)) (fun c => ?_)
    refine wp_go rfl rfl ?_
    refine wp_go rfl rfl ?_
    refine e_get rfl H71 rfl rfl ?_
    rw [e7]
    refine wp_cv rfl rfl rfl H71 rfl rfl rfl ?_
    refine c_mbyte (s := s) (p := q) hn H71 e4 H75 ?_
    refine wp_go rfl rfl ?_
    refine e_cne rfl (fun c => k h s H71 e7 HM HF) (fun c => absurd (hb.symm.trans c) (by decide))
  | succ g ih =>
    intro q s h H71 e4 e7 hq H75 HM HF k
    refine wp_go rfl rfl ?_
    refine wp_go rfl rfl ?_
    refine e_get rfl H71 rfl rfl ?_
    rw [e7]
    refine wp_cv rfl rfl rfl H71 rfl rfl rfl ?_
    refine c_mbyte (s := s) (p := q) hn H71 e4 H75 ?_
    refine wp_go rfl rfl ?_
    refine e_ceq rfl (fun c10 => ?_) (fun c10 => ?_)
    · skip
      have hbl : isBl (bt B n q) = true := by unfold isBl; simp; omega
      have hlt0 := tk_lt (B := B) (n := n) bl_k hbl
      refine wp_go rfl rfl ?_
      refine wp_go rfl rfl ?_
      refine e_get rfl H71 rfl rfl ?_
      rw [e7]
      refine wp_go rfl rfl ?_
      refine e_iadd rfl (by omega) ?_
      refine e_put (fs' := [xR 72, xR 73, xR 74, xR 75, xI (s 4), xI (s 5), xI (s 6), xI ((q : Int) + 1), xI (s 8), xI (s 9), xI (s 10), xL (s 11), xI (s 12), xI (s 13), xI (s 14), xI (s 15), xR 76, xI (s 17), xI (s 18), xI (s 19), xI (s 20), xI (s 21), xI (s 22), xR 77, xR 78, xR 79, xR 80, xR 81, xR 82, xR 83, xI (s 30), xR 84, xR 85, xR 86, xR 87, xR 88, xR 89, xR 90]) rfl H71 rfl rfl ?_
      refine wp_go rfl rfl ?_
      have hlt := tk_lt (B := B) (n := n) bl_k hbl
      rw [rne, if_pos hbl] at k
      exact ih (q + 1) (hc_u s 7 ((q : Int) + 1)) _ rfl e4 rfl (by omega) H75 (HM.u rfl) (HF.wr rfl) k
    · skip
      refine wp_go rfl rfl ?_
      refine wp_go rfl rfl ?_
      refine e_get rfl H71 rfl rfl ?_
      rw [e7]
      refine wp_cv rfl rfl rfl H71 rfl rfl rfl ?_
      refine c_mbyte (s := s) (p := q) hn H71 e4 H75 ?_
      refine wp_go rfl rfl ?_
      refine e_cne rfl (fun c23 => ?_) (fun c23 => ?_)
      · skip
        rw [rne, if_neg (by unfold isBl; simp; omega)] at k
        exact k h s H71 e7 HM HF
      · skip
        have hbl : isBl (bt B n q) = true := by unfold isBl; simp; omega
        have hlt0 := tk_lt (B := B) (n := n) bl_k hbl
        refine wp_go rfl rfl ?_
        refine wp_go rfl rfl ?_
        refine e_get rfl H71 rfl rfl ?_
        rw [e7]
        refine wp_go rfl rfl ?_
        refine e_iadd rfl (by omega) ?_
        refine e_put (fs' := [xR 72, xR 73, xR 74, xR 75, xI (s 4), xI (s 5), xI (s 6), xI ((q : Int) + 1), xI (s 8), xI (s 9), xI (s 10), xL (s 11), xI (s 12), xI (s 13), xI (s 14), xI (s 15), xR 76, xI (s 17), xI (s 18), xI (s 19), xI (s 20), xI (s 21), xI (s 22), xR 77, xR 78, xR 79, xR 80, xR 81, xR 82, xR 83, xI (s 30), xR 84, xR 85, xR 86, xR 87, xR 88, xR 89, xR 90]) rfl H71 rfl rfl ?_
        refine wp_go rfl rfl ?_
        have hlt := tk_lt (B := B) (n := n) bl_k hbl
        rw [rne, if_pos hbl] at k
        exact ih (q + 1) (hc_u s 7 ((q : Int) + 1)) _ rfl e4 rfl (by omega) H75 (HM.u rfl) (HF.wr rfl) k
set_option maxRecDepth 100000 in
theorem l_nt2 {d : Nat} {h0 : hc_H} {Q : List hc_V → hc_H → Prop} {n : Nat} {c : Int} {B s0 : Nat → Int} (hn : n ≤ 300) : ∀ (g q : Nat) (v nu : Int) (s : Nat → Int) (h : hc_H), h.2.2 71 = mo s → s 4 = (n : Int) → s 7 = (q : Int) → s 10 = nu → q ≤ n ∧ n ≤ q + g → (0 ≤ nu ∧ nu ≤ 2000000 ∧ ((nu ≤ 9999 ∧ v = nu) ∨ (9999 < nu ∧ v = 10000))) → h.2.2 75 = ar 300 B → ME [7, 10] s0 s → Fr [71] h0 h → (∀ h2 s2 nu2, h2.2.2 71 = mo s2 → s2 7 = ((rne isDi B n g q : Nat) : Int) → s2 10 = nu2 → (0 ≤ nu2 ∧ nu2 ≤ 2000000 ∧ ((nu2 ≤ 9999 ∧ dgv B n g q v = nu2) ∨ (9999 < nu2 ∧ dgv B n g q v = 10000))) → ME [7, 10] s0 s2 → Fr [71] h0 h2 → hc_wp (d + 2) mX10_nextToken 408 [xR 71, xI c, none] [] h2 Q) → hc_wp (d + 2) mX10_nextToken 85 [xR 71, xI c, none] [] h Q := by
  intro g
  induction g with
  | zero =>
    intro q v nu s h H71 e4 e7 e10 hq hv H75 HM HF k
    have hb : bt B n q = -1 := if_neg (by omega)
    refine wp_go rfl rfl ?_
    refine wp_go rfl rfl ?_
    refine e_get rfl H71 rfl rfl ?_
    rw [e7]
    refine wp_cv rfl rfl rfl H71 rfl rfl rfl ?_
    refine c_mbyte (s := s) (p := q) hn H71 e4 H75 ?_
    refine wp_call rfl rfl rfl rfl ?_
    refine c_misD (fun z => ?_) (fun z => ?_)
    · rw [hb] at z
      exact absurd z (by decide)
    · exact wp_go rfl rfl (k h s nu H71 e7 e10 hv HM HF)
  | succ g ih =>
    intro q v nu s h H71 e4 e7 e10 hq hv H75 HM HF k
    refine wp_go rfl rfl ?_
    refine wp_go rfl rfl ?_
    refine e_get rfl H71 rfl rfl ?_
    rw [e7]
    refine wp_cv rfl rfl rfl H71 rfl rfl rfl ?_
    refine c_mbyte (s := s) (p := q) hn H71 e4 H75 ?_
    refine wp_call rfl rfl rfl rfl ?_
    refine c_misD  (fun q93 => ?_) (fun q93 => ?_)
    · skip
      refine wp_go rfl rfl ?_
      have hcd : 48 ≤ bt B n q ∧ bt B n q ≤ 57 := of_decide_eq_true q93
      have hlt := tk_lt (B := B) (n := n) di_k q93
      refine wp_go rfl rfl ?_
      refine e_get rfl H71 rfl rfl ?_
      rw [e10]
      refine e_ldc 100000 rfl rfl ?_
      refine e_cge rfl (fun c105 => ?_) (fun c105 => ?_)
      · skip
        refine wp_go rfl rfl ?_
        refine wp_go rfl rfl ?_
        refine e_get rfl H71 rfl rfl ?_
        rw [e7]
        refine wp_go rfl rfl ?_
        refine e_iadd rfl (by omega) ?_
        refine e_put (fs' := [xR 72, xR 73, xR 74, xR 75, xI (s 4), xI (s 5), xI (s 6), xI ((q : Int) + 1), xI (s 8), xI (s 9), xI (s 10), xL (s 11), xI (s 12), xI (s 13), xI (s 14), xI (s 15), xR 76, xI (s 17), xI (s 18), xI (s 19), xI (s 20), xI (s 21), xI (s 22), xR 77, xR 78, xR 79, xR 80, xR 81, xR 82, xR 83, xI (s 30), xR 84, xR 85, xR 86, xR 87, xR 88, xR 89, xR 90]) rfl H71 rfl rfl ?_
        refine wp_go rfl rfl ?_
        rw [rne, if_pos q93, dgv, if_pos q93] at k
        exact ih (q + 1) _ nu (hc_u s 7 ((q : Int) + 1)) _ rfl e4 rfl e10 (by omega) (by split <;> omega) H75 (HM.u rfl) (HF.wr rfl) k
      · skip
        refine wp_go rfl rfl ?_
        refine wp_go rfl rfl ?_
        refine wp_go rfl rfl ?_
        refine e_get rfl H71 rfl rfl ?_
        rw [e10]
        refine e_imul rfl (by omega) ?_
        refine wp_go rfl rfl ?_
        refine wp_go rfl rfl ?_
        refine e_get rfl H71 rfl rfl ?_
        rw [e7]
        refine wp_cv rfl rfl rfl H71 rfl rfl rfl ?_
        refine c_mbyte (s := s) (p := q) hn H71 e4 H75 ?_
        refine e_iadd rfl (by omega) ?_
        refine wp_go rfl rfl ?_
        refine e_isub rfl (by omega) ?_
        refine e_put (fs' := [xR 72, xR 73, xR 74, xR 75, xI (s 4), xI (s 5), xI (s 6), xI (s 7), xI (s 8), xI (s 9), xI (((10 * nu) + (bt B n q)) - 48), xL (s 11), xI (s 12), xI (s 13), xI (s 14), xI (s 15), xR 76, xI (s 17), xI (s 18), xI (s 19), xI (s 20), xI (s 21), xI (s 22), xR 77, xR 78, xR 79, xR 80, xR 81, xR 82, xR 83, xI (s 30), xR 84, xR 85, xR 86, xR 87, xR 88, xR 89, xR 90]) rfl H71 rfl rfl ?_
        refine wp_go rfl rfl ?_
        refine wp_go rfl rfl ?_
        refine e_get rfl rfl rfl rfl ?_
        rw [e7]
        refine wp_go rfl rfl ?_
        refine e_iadd rfl (by omega) ?_
        refine e_put (fs' := [xR 72, xR 73, xR 74, xR 75, xI (s 4), xI (s 5), xI (s 6), xI ((q : Int) + 1), xI (s 8), xI (s 9), xI (((10 * nu) + (bt B n q)) - 48), xL (s 11), xI (s 12), xI (s 13), xI (s 14), xI (s 15), xR 76, xI (s 17), xI (s 18), xI (s 19), xI (s 20), xI (s 21), xI (s 22), xR 77, xR 78, xR 79, xR 80, xR 81, xR 82, xR 83, xI (s 30), xR 84, xR 85, xR 86, xR 87, xR 88, xR 89, xR 90]) rfl rfl rfl rfl ?_
        refine wp_go rfl rfl ?_
        rw [rne, if_pos q93, dgv, if_pos q93] at k
        exact ih (q + 1) _ ((((10 * nu) + (bt B n q)) - 48)) (hc_u (hc_u s 10 ((((10 * nu) + (bt B n q)) - 48))) 7 ((q : Int) + 1)) _ rfl e4 rfl rfl (by omega) (by split <;> omega) H75 ((HM.u rfl).u rfl) ((HF.wr rfl).wr rfl) k
    · skip
      refine wp_go rfl rfl ?_
      rw [rne, if_neg (nt q93), dgv, if_neg (nt q93)] at k
      exact k h s nu H71 e7 e10 hv HM HF
set_option maxRecDepth 100000 in
theorem l_nt3 {d : Nat} {h0 : hc_H} {Q : List hc_V → hc_H → Prop} {n p : Nat} {c : Int} {B s0 : Nat → Int} (hn : n ≤ 300) : ∀ (g q : Nat) (x : Int) (s : Nat → Int) (h : hc_H), h.2.2 71 = mo s → s 4 = (n : Int) → s 7 = (q : Int) → s 8 = (p : Int) → s 11 = x → p ≤ q ∧ q ≤ n ∧ n ≤ q + g → (q - p ≤ 7 → x = pw B n p (q - p)) → (∀ k, p + k < q → 65 ≤ bt B n (p + k) ∧ bt B n (p + k) ≤ 122) → True → h.2.2 75 = ar 300 B → ME [7, 11] s0 s → Fr [71] h0 h → (∀ h2 s2 x2, h2.2.2 71 = mo s2 → s2 7 = ((rne isLe B n g q : Nat) : Int) → s2 8 = (p : Int) → s2 11 = x2 → (rne isLe B n g q - p ≤ 7 → x2 = pw B n p (rne isLe B n g q - p)) → (∀ k, p + k < rne isLe B n g q → 65 ≤ bt B n (p + k) ∧ bt B n (p + k) ≤ 122) → ME [7, 11] s0 s2 → Fr [71] h0 h2 → hc_wp (d + 2) mX10_nextToken 223 [xR 71, xI c, none] [] h2 Q) → hc_wp (d + 2) mX10_nextToken 161 [xR 71, xI c, none] [] h Q := by
  intro g
  induction g with
  | zero =>
    intro q x s h H71 e4 e7 e8 e11 hq hx hl hT H75 HM HF k
    have hb : bt B n q = -1 := if_neg (by omega)
    refine wp_go rfl rfl ?_
    refine wp_go rfl rfl ?_
    refine e_get rfl H71 rfl rfl ?_
    rw [e7]
    refine wp_cv rfl rfl rfl H71 rfl rfl rfl ?_
    refine c_mbyte (s := s) (p := q) hn H71 e4 H75 ?_
    refine wp_call rfl rfl rfl rfl ?_
    refine c_misL (fun z => ?_) (fun z => ?_)
    · rw [hb] at z
      exact absurd z (by decide)
    · exact wp_go rfl rfl (k h s x H71 e7 e8 e11 hx hl HM HF)
  | succ g ih =>
    intro q x s h H71 e4 e7 e8 e11 hq hx hl hT H75 HM HF k
    refine wp_go rfl rfl ?_
    refine wp_go rfl rfl ?_
    refine e_get rfl H71 rfl rfl ?_
    rw [e7]
    refine wp_cv rfl rfl rfl H71 rfl rfl rfl ?_
    refine c_mbyte (s := s) (p := q) hn H71 e4 H75 ?_
    refine wp_call rfl rfl rfl rfl ?_
    refine c_misL  (fun q169 => ?_) (fun q169 => ?_)
    · skip
      refine wp_go rfl rfl ?_
      have hcl : 65 ≤ bt B n q ∧ bt B n q ≤ 122 := by have := of_decide_eq_true q169; omega
      have hlt := tk_lt (B := B) (n := n) le_k q169
      refine wp_go rfl rfl ?_
      refine e_get rfl H71 rfl rfl ?_
      rw [e7]
      refine wp_go rfl rfl ?_
      refine e_get rfl H71 rfl rfl ?_
      rw [e8]
      refine e_isub rfl (by omega) ?_
      refine wp_go rfl rfl ?_
      refine e_cge rfl (fun c186 => ?_) (fun c186 => ?_)
      · skip
        refine wp_go rfl rfl ?_
        refine wp_go rfl rfl ?_
        refine e_get rfl H71 rfl rfl ?_
        rw [e7]
        refine wp_go rfl rfl ?_
        refine e_iadd rfl (by omega) ?_
        refine e_put (fs' := [xR 72, xR 73, xR 74, xR 75, xI (s 4), xI (s 5), xI (s 6), xI ((q : Int) + 1), xI (s 8), xI (s 9), xI (s 10), xL (s 11), xI (s 12), xI (s 13), xI (s 14), xI (s 15), xR 76, xI (s 17), xI (s 18), xI (s 19), xI (s 20), xI (s 21), xI (s 22), xR 77, xR 78, xR 79, xR 80, xR 81, xR 82, xR 83, xI (s 30), xR 84, xR 85, xR 86, xR 87, xR 88, xR 89, xR 90]) rfl H71 rfl rfl ?_
        refine wp_go rfl rfl ?_
        rw [rne, if_pos q169] at k
        refine ih (q + 1) x (hc_u s 7 ((q : Int) + 1)) _ rfl e4 rfl e8 e11 (by omega) ?_ ?_ ?_ H75 (HM.u rfl) (HF.wr rfl) k
        · intro z
          exact absurd z (by omega)
        · intro k2 hk2
          by_cases z : p + k2 = q
          · rw [z]; omega
          · exact hl k2 (by omega)
        · trivial
      · skip
        have hxb : 0 ≤ x ∧ x < 281474976710656 := by
          have z := pw_bd (B := B) (n := n) (p := p) (q - p) (by omega) (fun k3 hk3 => hl k3 (by omega))
          rw [← hx (by omega)] at z
          have z2 : q - p = 0 ∨ q - p = 1 ∨ q - p = 2 ∨ q - p = 3 ∨ q - p = 4 ∨ q - p = 5 ∨ q - p = 6 := by omega
          rcases z2 with z2 | z2 | z2 | z2 | z2 | z2 | z2 <;> rw [z2] at z <;> omega
        refine wp_go rfl rfl ?_
        refine wp_go rfl rfl ?_
        refine e_get rfl H71 rfl rfl ?_
        rw [e11]
        refine wp_go rfl rfl ?_
        refine wp_go rfl rfl ?_
        refine wp_go rfl rfl ?_
        refine wp_go rfl rfl ?_
        refine e_get rfl H71 rfl rfl ?_
        rw [e7]
        refine wp_cv rfl rfl rfl H71 rfl rfl rfl ?_
        refine c_mbyte (s := s) (p := q) hn H71 e4 H75 ?_
        refine wp_go rfl rfl ?_
        refine wp_go rfl rfl ?_
        rw [zl_pack (by omega) (by omega)]
        refine e_put (fs' := [xR 72, xR 73, xR 74, xR 75, xI (s 4), xI (s 5), xI (s 6), xI (s 7), xI (s 8), xI (s 9), xI (s 10), xL (x * 256 + bt B n q), xI (s 12), xI (s 13), xI (s 14), xI (s 15), xR 76, xI (s 17), xI (s 18), xI (s 19), xI (s 20), xI (s 21), xI (s 22), xR 77, xR 78, xR 79, xR 80, xR 81, xR 82, xR 83, xI (s 30), xR 84, xR 85, xR 86, xR 87, xR 88, xR 89, xR 90]) rfl H71 rfl rfl ?_
        refine wp_go rfl rfl ?_
        refine wp_go rfl rfl ?_
        refine e_get rfl rfl rfl rfl ?_
        rw [e7]
        refine wp_go rfl rfl ?_
        refine e_iadd rfl (by omega) ?_
        refine e_put (fs' := [xR 72, xR 73, xR 74, xR 75, xI (s 4), xI (s 5), xI (s 6), xI ((q : Int) + 1), xI (s 8), xI (s 9), xI (s 10), xL (x * 256 + bt B n q), xI (s 12), xI (s 13), xI (s 14), xI (s 15), xR 76, xI (s 17), xI (s 18), xI (s 19), xI (s 20), xI (s 21), xI (s 22), xR 77, xR 78, xR 79, xR 80, xR 81, xR 82, xR 83, xI (s 30), xR 84, xR 85, xR 86, xR 87, xR 88, xR 89, xR 90]) rfl rfl rfl rfl ?_
        refine wp_go rfl rfl ?_
        rw [rne, if_pos q169] at k
        refine ih (q + 1) (x * 256 + bt B n q) (hc_u (hc_u s 11 (x * 256 + bt B n q)) 7 ((q : Int) + 1)) _ rfl e4 rfl e8 rfl (by omega) ?_ ?_ ?_ H75 ((HM.u rfl).u rfl) ((HF.wr rfl).wr rfl) k
        · intro z
          rw [hx (by omega), show q + 1 - p = (q - p) + 1 by omega, pw, show p + (q - p) = q by omega]
        · intro k2 hk2
          by_cases z : p + k2 = q
          · rw [z]; omega
          · exact hl k2 (by omega)
        · trivial
    · skip
      refine wp_go rfl rfl ?_
      rw [rne, if_neg (nt q169)] at k
      exact k h s x H71 e7 e8 e11 hx hl HM HF
