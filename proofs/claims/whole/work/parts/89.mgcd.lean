/-! the reference: common measures, images, balances -/
theorem gcd_st {x y : Nat} : Nat.gcd y (x % y) = Nat.gcd x y := by
  rw [Nat.gcd_comm x y, Nat.gcd_rec y x, Nat.gcd_comm]
def cpA (A B : Nat → Int) (j : Nat) : Nat → Int := fun q => if q < j then A q else B q
theorem cpA_s {A B : Nat → Int} {j : Nat} : hc_u (cpA A B j) j (A j) = cpA A B (j + 1) := by
  funext q
  unfold hc_u cpA
  by_cases c : q = j
  · rw [if_pos c, if_pos (by omega), c]
  · rw [if_neg c]
    by_cases c2 : q < j
    · rw [if_pos c2, if_pos (by omega)]
    · rw [if_neg c2, if_neg (by omega)]
theorem RA.cg {A A2 : Nat → Int} {s : cT} {e : dX} (H : RA A s e) (hc : s.ct ≤ 30) (h : ∀ q, q < 456 → A2 q = A q) : RA A2 s e := by
  obtain ⟨⟨a0, a1, a2, a3, a4, a5, a6, a7, a8, a9⟩, b, c, g, f⟩ := H
  refine ⟨⟨(h _ (by omega)).trans a0, (h _ (by omega)).trans a1, (h _ (by omega)).trans a2, (h _ (by omega)).trans a3, (h _ (by omega)).trans a4, (h _ (by omega)).trans a5, (h _ (by omega)).trans a6, (h _ (by omega)).trans a7, (h _ (by omega)).trans a8, (h _ (by omega)).trans a9⟩, fun p hp => ⟨(h _ (by omega)).trans (b p hp).1, (h _ (by omega)).trans (b p hp).2⟩, fun k hk => ⟨(h _ (by omega)).trans (c k hk).1, (h _ (by omega)).trans (c k hk).2.1, (h _ (by omega)).trans (c k hk).2.2⟩, fun k hk => (h _ (by omega)).trans (g k hk), fun i hi => (f i hi).eq (fun q hq => h _ (by omega)) (fun _ _ => rfl)⟩
set_option maxRecDepth 100000 in
theorem l_mcom {d : Nat} {h : hc_H} {Q : List hc_V → hc_H → Prop} {a b : Int} {g : Nat} (k : Q [xI (g : Int)] h) : ∀ (n x y : Nat) (l4 : hc_V), y < n → x ≤ 720720 → y ≤ 720720 → Nat.gcd x y = g → hc_wp d mX10_common 4 [xI a, xI b, xI (x : Int), xI (y : Int), l4] [] h Q := by
  intro n
  induction n with
  | zero =>
    intro x y l4 hj
    exact absurd hj (by omega)
  | succ n ih =>
    intro x y l4 hy hx1 hy1 hg
    refine wp_go rfl rfl ?_
    refine e_ifeq rfl (fun c5 => ?_) (fun c5 => ?_)
    · skip
      refine wp_go rfl rfl ?_
      refine wp_ret rfl rfl ?_
      rw [show y = 0 by omega, Nat.gcd_zero_right] at hg
      rw [hg]
      exact k
    · skip
      refine wp_go rfl rfl ?_
      refine wp_go rfl rfl ?_
      refine e_irem rfl (by omega) ?_
      rw [show Int.tmod (x : Int) (y : Int) = ((x % y : Nat) : Int) from rfl]
      refine e_ist (L' := [xI a, xI b, xI (x : Int), xI (y : Int), xI ((x % y : Nat) : Int)]) rfl rfl rfl ?_
      refine wp_go rfl rfl ?_
      refine e_istn (L' := [xI a, xI b, xI (y : Int), xI (y : Int), xI ((x % y : Nat) : Int)]) rfl rfl rfl ?_
      refine wp_go rfl rfl ?_
      refine e_istn (L' := [xI a, xI b, xI (y : Int), xI ((x % y : Nat) : Int), xI ((x % y : Nat) : Int)]) rfl rfl rfl ?_
      refine wp_go rfl rfl ?_
      have hm : x % y < y := Nat.mod_lt _ (by omega)
      exact ih y (x % y) _ (by omega) (by omega) (by omega) (by rw [gcd_st]; exact hg)
set_option maxRecDepth 100000 in
theorem c_mcommon {d : Nat} {h : hc_H} {Q : List hc_V → hc_H → Prop} {m : Nat} (hm : m ≤ 720720) (k : Q [xI ((Nat.gcd m 720720 : Nat) : Int)] h) : hc_wp d mX10_common 0 [xI (m : Int), xI 720720, none, none, none] [] h Q := by
  refine wp_go rfl rfl ?_
  refine e_istn (L' := [xI (m : Int), xI 720720, xI (m : Int), none, none]) rfl rfl rfl ?_
  refine wp_go rfl rfl ?_
  refine e_istn (L' := [xI (m : Int), xI 720720, xI (m : Int), xI 720720, none]) rfl rfl rfl ?_
  exact l_mcom (g := Nat.gcd m 720720) k 720721 m 720720 _ (by omega) hm (by omega) rfl
set_option maxRecDepth 100000 in
theorem c_mlower {d : Nat} {h : hc_H} {Q : List hc_V → hc_H → Prop} {m : Nat} (hm : m ≤ 720720) (k : Q [xI ((lwn m : Nat) : Int)] h) : hc_wp (d + 1) mX10_lowerOf 0 [xI (m : Int)] [] h Q := by
  refine e_ldc 720720 rfl rfl ?_
  refine wp_go rfl rfl ?_
  refine e_ldc 720720 rfl rfl ?_
  refine wp_call rfl rfl rfl rfl ?_
  refine c_mcommon (m := m) hm ?_
  have hgp : 0 < Nat.gcd m 720720 := Nat.gcd_pos_of_pos_right _ (by decide)
  have hgl : Nat.gcd m 720720 ≤ 720720 := Nat.gcd_le_right _ (by decide)
  refine e_idiv rfl (by omega) (by rw [show Int.tdiv 720720 ((Nat.gcd m 720720 : Nat) : Int) = ((720720 / Nat.gcd m 720720 : Nat) : Int) from rfl]; have z9 := Nat.div_le_self 720720 (Nat.gcd m 720720); obtain ⟨z, hz⟩ : ∃ z, z = 720720 / Nat.gcd m 720720 := ⟨_, rfl⟩; rw [← hz] at z9 ⊢; omega) ?_
  refine wp_ret rfl rfl ?_
  rw [show Int.tdiv 720720 ((Nat.gcd m 720720 : Nat) : Int) = ((720720 / Nat.gcd m 720720 : Nat) : Int) from rfl]
  rw [show 720720 / Nat.gcd m 720720 = lwn m by unfold lwn; rw [Nat.gcd_comm]]
  exact k
set_option maxRecDepth 100000 in
theorem l_mcopy_k {d : Nat} {h0 : hc_H} {Q : List hc_V → hc_H → Prop} {A B : Nat → Int} (k : ∀ h2, h2.2.2 73 = ar 456 (cpA A B 456) → Fr [73] h0 h2 → Q [] h2) : ∀ (n j : Nat) (h : hc_H), (j ≤ 456 ∧ 456 < j + n) → h.2.2 72 = ar 456 A → h.2.2 73 = ar 456 (cpA A B j) → Fr [73] h0 h → hc_wp d mX10_copy 2 [xR 72, xR 73, xI (j : Int)] [] h Q := by
  intro n
  induction n with
  | zero =>
    intro j h hj
    exact absurd hj (by omega)
  | succ n ih =>
    intro j h hj H1 H2 HF
    refine wp_go rfl rfl ?_
    refine wp_go rfl rfl ?_
    refine e_cge rfl (fun c6 => ?_) (fun c6 => ?_)
    · skip
      refine wp_ret rfl rfl ?_
      rw [show j = 456 by omega] at H2
      exact k h H2 HF
    · skip
      refine wp_go rfl rfl ?_
      refine wp_go rfl rfl ?_
      refine wp_go rfl rfl ?_
      refine wp_go rfl rfl ?_
      refine e_aldE (p := j) rfl H1 rfl ⟨by omega, by omega⟩ ?_
      refine e_iastE (p := j) rfl H2 ⟨by omega, by omega⟩ ?_
      refine e_inc (L' := [xR 72, xR 73, xI ((j : Int) + 1)]) rfl rfl (by omega) rfl ?_
      refine wp_go rfl rfl ?_
      rw [cpA_s]
      exact ih (j + 1) _ (by omega) H1 rfl (HF.wr rfl)
set_option maxRecDepth 100000 in
theorem c_mcopy_k {d : Nat} {h : hc_H} {Q : List hc_V → hc_H → Prop} {A B : Nat → Int} (H1 : h.2.2 72 = ar 456 A) (H2 : h.2.2 73 = ar 456 B) (k : ∀ h2, h2.2.2 73 = ar 456 (cpA A B 456) → Fr [73] h h2 → Q [] h2) : hc_wp d mX10_copy 0 [xR 72, xR 73, none] [] h Q := by
  have z0 : cpA A B 0 = B := funext (fun q => if_neg (by omega))
  rw [← z0] at H2
  refine wp_go rfl rfl ?_
  refine e_istn (L' := [xR 72, xR 73, xI 0]) rfl rfl rfl ?_
  exact l_mcopy_k (A := A) (B := B) k 457 0 h (by omega) H1 H2 Fr.rf
set_option maxRecDepth 100000 in
theorem c_mimage {d : Nat} {h : hc_H} {Q : List hc_V → hc_H → Prop} {s A B : Nat → Int} {cs : cT} {e : dX} (hct : cs.ct ≤ 30) (H71 : h.2.2 71 = mo s) (H72 : h.2.2 72 = ar 456 A) (H73 : h.2.2 73 = ar 456 B) (H : RA A cs e) (k : ∀ h2 A2, h2.2.2 73 = ar 456 A2 → RA A2 cs e → Fr [73] h h2 → Q [xI cs.dy] h2) : hc_wp (d + 1) mX10_image 0 [xR 71] [] h Q := by
  refine wp_go rfl rfl ?_
  refine e_get rfl H71 rfl rfl ?_
  refine wp_go rfl rfl ?_
  refine e_get rfl H71 rfl rfl ?_
  refine wp_call rfl rfl rfl rfl ?_
  refine c_mcopy_k H72 H73 (fun h2 E2 F2 => ?_)
  refine wp_go rfl rfl ?_
  refine e_get rfl ((F2.2.2 71 rfl).trans H71) rfl rfl ?_
  refine wp_go rfl rfl ?_
  refine e_aldE (p := 1) rfl ((F2.2.2 72 rfl).trans H72) rfl ⟨by omega, by omega⟩ ?_
  rw [show (A 1) = cs.dy from H.1.2.1]
  refine wp_ret rfl rfl ?_
  exact k h2 _ E2 (H.cg hct (fun q hq => if_pos hq)) F2
set_option maxRecDepth 100000 in
theorem l_mcopy_b {d : Nat} {h0 : hc_H} {Q : List hc_V → hc_H → Prop} {A B : Nat → Int} (k : ∀ h2, h2.2.2 72 = ar 456 (cpA A B 456) → Fr [72] h0 h2 → Q [] h2) : ∀ (n j : Nat) (h : hc_H), (j ≤ 456 ∧ 456 < j + n) → h.2.2 73 = ar 456 A → h.2.2 72 = ar 456 (cpA A B j) → Fr [72] h0 h → hc_wp d mX10_copy 2 [xR 73, xR 72, xI (j : Int)] [] h Q := by
  intro n
  induction n with
  | zero =>
    intro j h hj
    exact absurd hj (by omega)
  | succ n ih =>
    intro j h hj H1 H2 HF
    refine wp_go rfl rfl ?_
    refine wp_go rfl rfl ?_
    refine e_cge rfl (fun c6 => ?_) (fun c6 => ?_)
    · skip
      refine wp_ret rfl rfl ?_
      rw [show j = 456 by omega] at H2
      exact k h H2 HF
    · skip
      refine wp_go rfl rfl ?_
      refine wp_go rfl rfl ?_
      refine wp_go rfl rfl ?_
      refine wp_go rfl rfl ?_
      refine e_aldE (p := j) rfl H1 rfl ⟨by omega, by omega⟩ ?_
      refine e_iastE (p := j) rfl H2 ⟨by omega, by omega⟩ ?_
      refine e_inc (L' := [xR 73, xR 72, xI ((j : Int) + 1)]) rfl rfl (by omega) rfl ?_
      refine wp_go rfl rfl ?_
      rw [cpA_s]
      exact ih (j + 1) _ (by omega) H1 rfl (HF.wr rfl)
set_option maxRecDepth 100000 in
theorem c_mcopy_b {d : Nat} {h : hc_H} {Q : List hc_V → hc_H → Prop} {A B : Nat → Int} (H1 : h.2.2 73 = ar 456 A) (H2 : h.2.2 72 = ar 456 B) (k : ∀ h2, h2.2.2 72 = ar 456 (cpA A B 456) → Fr [72] h h2 → Q [] h2) : hc_wp d mX10_copy 0 [xR 73, xR 72, none] [] h Q := by
  have z0 : cpA A B 0 = B := funext (fun q => if_neg (by omega))
  rw [← z0] at H2
  refine wp_go rfl rfl ?_
  refine e_istn (L' := [xR 73, xR 72, xI 0]) rfl rfl rfl ?_
  exact l_mcopy_b (A := A) (B := B) k 457 0 h (by omega) H1 H2 Fr.rf
set_option maxRecDepth 100000 in
theorem c_mback {d : Nat} {h : hc_H} {Q : List hc_V → hc_H → Prop} {s A B : Nat → Int} {cs : cT} {e : dX} (hct : cs.ct ≤ 30) (H71 : h.2.2 71 = mo s) (H72 : h.2.2 72 = ar 456 B) (H73 : h.2.2 73 = ar 456 A) (H : RA A cs e) (k : ∀ h2 A2, h2.2.2 72 = ar 456 A2 → RA A2 cs e → Fr [72] h h2 → Q [xI cs.dy] h2) : hc_wp (d + 1) mX10_back 0 [xR 71] [] h Q := by
  refine wp_go rfl rfl ?_
  refine e_get rfl H71 rfl rfl ?_
  refine wp_go rfl rfl ?_
  refine e_get rfl H71 rfl rfl ?_
  refine wp_call rfl rfl rfl rfl ?_
  refine c_mcopy_b H73 H72 (fun h2 E2 F2 => ?_)
  refine wp_go rfl rfl ?_
  refine e_get rfl ((F2.2.2 71 rfl).trans H71) rfl rfl ?_
  refine wp_go rfl rfl ?_
  refine e_aldE (p := 1) rfl E2 rfl ⟨by omega, by omega⟩ ?_
  rw [show ((cpA A B 456) 1) = cs.dy from (if_pos (by omega)).trans H.1.2.1]
  refine wp_ret rfl rfl ?_
  exact k h2 _ E2 (H.cg hct (fun q hq => if_pos hq)) F2
set_option maxRecDepth 100000 in
theorem l_mbal {d : Nat} {h : hc_H} {Q : List hc_V → hc_H → Prop} {w : Int} {s A : Nat → Int} {cs : cT} {e : dX} (H71 : h.2.2 71 = mo s) (H72 : h.2.2 72 = ar 456 A) (H : RA A cs e) (he : e.1 ≤ 20) (ham : ∀ j, j < e.1 → 0 ≤ e.2.2.2.1 j ∧ e.2.2.2.1 j ≤ 720720) (hun : ∀ j, j < e.1 → e.2.1 j ≠ e.2.2.1 j) (k : Q [xI (bal e.2.1 e.2.2.1 e.2.2.2.1 w e.1)] h) : ∀ (n j : Nat) (v : Int) (l4 : hc_V), (j ≤ e.1 ∧ e.1 < j + n) → v = bal e.2.1 e.2.2.1 e.2.2.2.1 w j → hc_wp d mX10_balanceOf 4 [xR 71, xI w, xI v, xI (j : Int), l4] [] h Q := by
  intro n
  induction n with
  | zero =>
    intro j v l4 hj
    exact absurd hj (by omega)
  | succ n ih =>
    intro j v l4 hj hv
    refine wp_go rfl rfl ?_
    refine wp_go rfl rfl ?_
    refine e_get rfl H71 rfl rfl ?_
    refine wp_go rfl rfl ?_
    refine e_aldE (p := 8) rfl H72 rfl ⟨by omega, by omega⟩ ?_
    rw [show (A 8) = (e.1 : Int) from H.1.2.2.2.2.2.2.2.2.1]
    refine e_cge rfl (fun c12 => ?_) (fun c12 => ?_)
    · skip
      refine wp_go rfl rfl ?_
      refine wp_ret rfl rfl ?_
      rw [hv, show j = e.1 by omega]
      exact k
    · skip
      have hcj := H.2.2.1 j (by omega)
      have haj := ham j (by omega)
      have hbj := bal_bd (dt := e.2.1) (ow := e.2.2.1) (am := e.2.2.2.1) (who := w) j (fun i hi => ham i (by omega))
      refine wp_go rfl rfl ?_
      refine wp_go rfl rfl ?_
      refine wp_go rfl rfl ?_
      refine e_imul rfl (by omega) ?_
      refine e_iadd rfl (by omega) ?_
      rw [show (28 : Int) + (3 * (j : Int)) = ((28 + 3 * j : Nat) : Int) by omega]
      refine e_ist (L' := [xR 71, xI w, xI v, xI (j : Int), xI ((28 + 3 * j : Nat) : Int)]) rfl rfl rfl ?_
      refine wp_go rfl rfl ?_
      refine wp_go rfl rfl ?_
      refine e_get rfl H71 rfl rfl ?_
      refine wp_go rfl rfl ?_
      refine wp_go rfl rfl ?_
      refine e_iadd rfl (by omega) ?_
      refine e_aldE (p := 28 + 3 * j + 1) rfl H72 rfl ⟨by omega, by omega⟩ ?_
      rw [hcj.2.1]
      refine wp_go rfl rfl ?_
      refine e_cne rfl (fun c34 => ?_) (fun c34 => ?_)
      · skip
        refine wp_go rfl rfl ?_
        refine e_get rfl H71 rfl rfl ?_
        refine wp_go rfl rfl ?_
        refine e_aldE (p := 28 + 3 * j) rfl H72 rfl ⟨by omega, by omega⟩ ?_
        rw [hcj.1]
        refine wp_go rfl rfl ?_
        refine e_cne rfl (fun c57 => ?_) (fun c57 => ?_)
        · skip
          refine wp_go rfl rfl ?_
          refine e_iadd rfl (by omega) ?_
          refine e_istn (L' := [xR 71, xI w, xI (v + 0), xI (j : Int), xI ((28 + 3 * j : Nat) : Int)]) rfl rfl rfl ?_
          refine e_inc (L' := [xR 71, xI w, xI (v + 0), xI ((j : Int) + 1), xI ((28 + 3 * j : Nat) : Int)]) rfl rfl (by omega) rfl ?_
          refine wp_go rfl rfl ?_
          exact ih (j + 1) _ _ (by omega) (by rw [bal, hv]; rw [if_neg (by omega), if_neg (by omega)]; omega)
        · skip
          refine wp_go rfl rfl ?_
          refine e_get rfl H71 rfl rfl ?_
          refine wp_go rfl rfl ?_
          refine wp_go rfl rfl ?_
          refine e_iadd rfl (by omega) ?_
          refine e_aldE (p := 28 + 3 * j + 2) rfl H72 rfl ⟨by omega, by omega⟩ ?_
          rw [hcj.2.2]
          refine e_ineg rfl (by omega) ?_
          refine wp_go rfl rfl ?_
          refine e_iadd rfl (by omega) ?_
          refine e_istn (L' := [xR 71, xI w, xI (v + (-(e.2.2.2.1 j))), xI (j : Int), xI ((28 + 3 * j : Nat) : Int)]) rfl rfl rfl ?_
          refine e_inc (L' := [xR 71, xI w, xI (v + (-(e.2.2.2.1 j))), xI ((j : Int) + 1), xI ((28 + 3 * j : Nat) : Int)]) rfl rfl (by omega) rfl ?_
          refine wp_go rfl rfl ?_
          exact ih (j + 1) _ _ (by omega) (by rw [bal, hv]; rw [if_neg (by omega), if_pos (by omega)]; omega)
      · skip
        refine wp_go rfl rfl ?_
        refine e_get rfl H71 rfl rfl ?_
        refine wp_go rfl rfl ?_
        refine wp_go rfl rfl ?_
        refine e_iadd rfl (by omega) ?_
        refine e_aldE (p := 28 + 3 * j + 2) rfl H72 rfl ⟨by omega, by omega⟩ ?_
        rw [hcj.2.2]
        refine wp_go rfl rfl ?_
        refine e_iadd rfl (by omega) ?_
        refine e_istn (L' := [xR 71, xI w, xI (v + (e.2.2.2.1 j)), xI (j : Int), xI ((28 + 3 * j : Nat) : Int)]) rfl rfl rfl ?_
        refine e_inc (L' := [xR 71, xI w, xI (v + (e.2.2.2.1 j)), xI ((j : Int) + 1), xI ((28 + 3 * j : Nat) : Int)]) rfl rfl (by omega) rfl ?_
        refine wp_go rfl rfl ?_
        exact ih (j + 1) _ _ (by omega) (by rw [bal, hv]; rw [if_pos (by omega), if_neg (by have := hun j (by omega); omega)]; omega)
set_option maxRecDepth 100000 in
theorem c_mbal {d : Nat} {h : hc_H} {Q : List hc_V → hc_H → Prop} {w : Int} {s A : Nat → Int} {cs : cT} {e : dX} (H71 : h.2.2 71 = mo s) (H72 : h.2.2 72 = ar 456 A) (H : RA A cs e) (he : e.1 ≤ 20) (ham : ∀ j, j < e.1 → 0 ≤ e.2.2.2.1 j ∧ e.2.2.2.1 j ≤ 720720) (hun : ∀ j, j < e.1 → e.2.1 j ≠ e.2.2.1 j) (k : Q [xI (bal e.2.1 e.2.2.1 e.2.2.2.1 w e.1)] h) : hc_wp d mX10_balanceOf 0 [xR 71, xI w, none, none, none] [] h Q := by
  refine wp_go rfl rfl ?_
  refine e_istn (L' := [xR 71, xI w, xI 0, none, none]) rfl rfl rfl ?_
  refine wp_go rfl rfl ?_
  refine e_istn (L' := [xR 71, xI w, xI 0, xI 0, none]) rfl rfl rfl ?_
  exact l_mbal H71 H72 H he ham hun k (e.1 + 1) 0 0 _ (by omega) rfl
