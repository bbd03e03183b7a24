/-! the reference: the most parts of a set -/
theorem hu_u {f : Nat → Int} {k : Nat} {x y : Int} : hc_u (hc_u f k x) k y = hc_u f k y := by
  funext q
  unfold hc_u
  split <;> rfl
theorem b_tx {s p : Nat} (hs : s < 256) (hp : p < 8) : ∃ bv : Int, hc_and (s : Int) (hc_shl 1 (p : Int)) = bv ∧ (bv = 0 ↔ Nat.testBit s p = false) := by
  refine ⟨_, b_tan hs hp, ?_⟩
  have h2 : 0 < 2 ^ p := Nat.pow_pos (by decide)
  cases e : Nat.testBit s p with
  | true =>
    rw [if_pos rfl]
    exact ⟨fun z => by omega, fun z => nomatch z⟩
  | false =>
    rw [if_neg (by decide)]
    exact ⟨fun _ => rfl, fun _ => rfl⟩
set_option maxRecDepth 100000 in
theorem l_mfind {d : Nat} {h0 : hc_H} {Q : List hc_V → hc_H → Prop} {S : Nat} {s sm M : Nat → Int} (h1 : 1 ≤ S) (hS : S < 256) (hM : ∀ q, q < 256 → -1 ≤ M q ∧ M q ≤ 1000) (k : ∀ h2, h2.2.2 82 = ar 256 (hc_u M S (fmS sm M S S)) → Fr [82] h0 h2 → Q [] h2) : ∀ (n j : Nat) (l4 : hc_V) (h : hc_H), (j ≤ S ∧ S < j + n) → h.2.2 71 = mo s → h.2.2 81 = ar 256 sm → h.2.2 82 = ar 256 (hc_u M S (fmS sm M S j)) → Fr [82] h0 h → hc_wp (d + 2) mX10_findMost 29 [xR 71, xI (S : Int), xI (hc_shl 1 ((tz S : Nat) : Int)), xI ((j + 1 : Nat) : Int), l4] [] h Q := by
  have hzS := tz_at h1 hS
  intro n
  induction n with
  | zero =>
    intro j l4 h hj
    exact absurd hj (by omega)
  | succ n ih =>
    intro j l4 h hj H71 H81 H82 HF
    refine wp_go rfl rfl ?_
    refine wp_go rfl rfl ?_
    refine e_cgt rfl (fun c31 => ?_) (fun c31 => ?_)
    · skip
      refine wp_ret rfl rfl ?_
      rw [show j = S by omega] at H82
      exact k h H82 HF
    · skip
      refine wp_go rfl rfl ?_
      refine wp_go rfl rfl ?_
      refine wp_go rfl rfl ?_
      refine wp_go rfl rfl ?_
      refine wp_go rfl rfl ?_
      rw [b_dif (show j + 1 < 256 by omega) hS]
      refine e_ifne rfl (fun c39 => ?_) (fun c39 => ?_)
      · skip
        refine e_inc (L' := [xR 71, xI (S : Int), xI (hc_shl 1 ((tz S : Nat) : Int)), xI (((j + 1 : Nat) : Int) + 1), l4]) rfl rfl (by omega) rfl ?_
        rw [show ((j + 1 : Nat) : Int) + 1 = ((j + 1 + 1 : Nat) : Int) from rfl]
        refine wp_go rfl rfl ?_
        have hstep : fmS sm M S (j + 1) = fmt sm M S (fmS sm M S j) (j + 1) := rfl
        have hst2 : fmt sm M S (fmS sm M S j) (j + 1) = fmS sm M S j := if_neg (fun z => by obtain ⟨z1, z2, z3, z4, z5⟩ := z; omega)
        exact ih (j + 1) _ _ (by omega) H71 H81 (by rw [hstep, hst2]; exact H82) HF
      · skip
        refine wp_go rfl rfl ?_
        refine wp_go rfl rfl ?_
        refine wp_go rfl rfl ?_
        obtain ⟨bv, hb1, hb2⟩ := b_tx (show j + 1 < 256 by omega) (tz_lt (s := S))
        rw [hb1]
        refine e_ifeq rfl (fun c45 => ?_) (fun c45 => ?_)
        · skip
          refine e_inc (L' := [xR 71, xI (S : Int), xI (hc_shl 1 ((tz S : Nat) : Int)), xI (((j + 1 : Nat) : Int) + 1), l4]) rfl rfl (by omega) rfl ?_
          rw [show ((j + 1 : Nat) : Int) + 1 = ((j + 1 + 1 : Nat) : Int) from rfl]
          refine wp_go rfl rfl ?_
          have hstep : fmS sm M S (j + 1) = fmt sm M S (fmS sm M S j) (j + 1) := rfl
          have hst2 : fmt sm M S (fmS sm M S j) (j + 1) = fmS sm M S j := if_neg (fun z => by obtain ⟨z1, z2, z3, z4, z5⟩ := z; rw [hb2.1 c45] at z2; exact nomatch z2)
          exact ih (j + 1) _ _ (by omega) H71 H81 (by rw [hstep, hst2]; exact H82) HF
        · skip
          refine wp_go rfl rfl ?_
          refine e_get rfl H71 rfl rfl ?_
          refine wp_go rfl rfl ?_
          refine e_aldE (p := j + 1) rfl H81 rfl ⟨by omega, by omega⟩ ?_
          refine e_ifeq rfl (fun c54 => ?_) (fun c54 => ?_)
          · skip
            have hbt : Nat.testBit (j + 1) (tz S) = true := by
              cases e : Nat.testBit (j + 1) (tz S) with
              | true => rfl
              | false => exact absurd (hb2.2 e) c45
            have hdl := dif_le (s := S) (t := j + 1)
            have hMd := hM (dif S (j + 1)) (by omega)
            refine wp_go rfl rfl ?_
            refine e_get rfl H71 rfl rfl ?_
            refine wp_go rfl rfl ?_
            refine wp_go rfl rfl ?_
            refine wp_go rfl rfl ?_
            refine wp_go rfl rfl ?_
            refine wp_go rfl rfl ?_
            rw [b_dif hS (show j + 1 < 256 by omega)]
            refine e_aldE (p := dif S (j + 1)) rfl H82 rfl ⟨by omega, by omega⟩ ?_
            rw [hu_n (dif_ne hbt hzS.2)]
            refine e_ist (L' := [xR 71, xI (S : Int), xI (hc_shl 1 ((tz S : Nat) : Int)), xI ((j + 1 : Nat) : Int), xI (M (dif S (j + 1)))]) rfl rfl rfl ?_
            refine wp_go rfl rfl ?_
            refine e_iflt rfl (fun c74 => ?_) (fun c74 => ?_)
            · skip
              refine e_inc (L' := [xR 71, xI (S : Int), xI (hc_shl 1 ((tz S : Nat) : Int)), xI (((j + 1 : Nat) : Int) + 1), xI (M (dif S (j + 1)))]) rfl rfl (by omega) rfl ?_
              rw [show ((j + 1 : Nat) : Int) + 1 = ((j + 1 + 1 : Nat) : Int) from rfl]
              refine wp_go rfl rfl ?_
              have hstep : fmS sm M S (j + 1) = fmt sm M S (fmS sm M S j) (j + 1) := rfl
              have hst2 : fmt sm M S (fmS sm M S j) (j + 1) = fmS sm M S j := if_neg (fun z => by obtain ⟨z1, z2, z3, z4, z5⟩ := z; omega)
              exact ih (j + 1) _ _ (by omega) H71 H81 (by rw [hstep, hst2]; exact H82) HF
            · skip
              refine wp_go rfl rfl ?_
              refine wp_go rfl rfl ?_
              refine e_iadd rfl (by omega) ?_
              refine wp_go rfl rfl ?_
              refine e_get rfl H71 rfl rfl ?_
              refine wp_go rfl rfl ?_
              refine e_aldE (p := S) rfl H82 rfl ⟨by omega, by omega⟩ ?_
              rw [hu_s]
              refine e_cle rfl (fun c87 => ?_) (fun c87 => ?_)
              · skip
                refine e_inc (L' := [xR 71, xI (S : Int), xI (hc_shl 1 ((tz S : Nat) : Int)), xI (((j + 1 : Nat) : Int) + 1), xI (M (dif S (j + 1)))]) rfl rfl (by omega) rfl ?_
                rw [show ((j + 1 : Nat) : Int) + 1 = ((j + 1 + 1 : Nat) : Int) from rfl]
                refine wp_go rfl rfl ?_
                have hstep : fmS sm M S (j + 1) = fmt sm M S (fmS sm M S j) (j + 1) := rfl
                have hst2 : fmt sm M S (fmS sm M S j) (j + 1) = fmS sm M S j := if_neg (fun z => by obtain ⟨z1, z2, z3, z4, z5⟩ := z; omega)
                exact ih (j + 1) _ _ (by omega) H71 H81 (by rw [hstep, hst2]; exact H82) HF
              · skip
                refine wp_go rfl rfl ?_
                refine e_get rfl H71 rfl rfl ?_
                refine wp_go rfl rfl ?_
                refine wp_go rfl rfl ?_
                refine wp_go rfl rfl ?_
                refine e_iadd rfl (by omega) ?_
                refine e_iastE (p := S) rfl H82 ⟨by omega, by omega⟩ ?_
                refine e_inc (L' := [xR 71, xI (S : Int), xI (hc_shl 1 ((tz S : Nat) : Int)), xI (((j + 1 : Nat) : Int) + 1), xI (M (dif S (j + 1)))]) rfl rfl (by omega) rfl ?_
                rw [show ((j + 1 : Nat) : Int) + 1 = ((j + 1 + 1 : Nat) : Int) from rfl]
                refine wp_go rfl rfl ?_
                have hstep : fmS sm M S (j + 1) = fmt sm M S (fmS sm M S j) (j + 1) := rfl
                rw [show fmt sm M S (fmS sm M S j) (j + 1) = M (dif S (j + 1)) + 1 from if_pos ⟨by omega, hbt, by omega, by omega, by omega⟩] at hstep
                rw [hu_u, ← hstep]
                exact ih (j + 1) _ _ (by omega) H71 H81 rfl (HF.wr rfl)
          · skip
            refine wp_go rfl rfl ?_
            refine e_inc (L' := [xR 71, xI (S : Int), xI (hc_shl 1 ((tz S : Nat) : Int)), xI (((j + 1 : Nat) : Int) + 1), l4]) rfl rfl (by omega) rfl ?_
            rw [show ((j + 1 : Nat) : Int) + 1 = ((j + 1 + 1 : Nat) : Int) from rfl]
            refine wp_go rfl rfl ?_
            have hstep : fmS sm M S (j + 1) = fmt sm M S (fmS sm M S j) (j + 1) := rfl
            have hst2 : fmt sm M S (fmS sm M S j) (j + 1) = fmS sm M S j := if_neg (fun z => by obtain ⟨z1, z2, z3, z4, z5⟩ := z; omega)
            exact ih (j + 1) _ _ (by omega) H71 H81 (by rw [hstep, hst2]; exact H82) HF
set_option maxRecDepth 100000 in
theorem c_mfind1 {d : Nat} {h : hc_H} {Q : List hc_V → hc_H → Prop} {S : Nat} {s sm M : Nat → Int} (h1 : 1 ≤ S) (hS : S < 256) (hM : ∀ q, q < 256 → -1 ≤ M q ∧ M q ≤ 1000) (H71 : h.2.2 71 = mo s) (H81 : h.2.2 81 = ar 256 sm) (H82 : h.2.2 82 = ar 256 M) (k : ∀ h2, h2.2.2 82 = ar 256 (hc_u M S (fmS sm M S S)) → Fr [82] h h2 → Q [] h2) : hc_wp (d + 2) mX10_findMost 0 [xR 71, xI (S : Int), none, none, none] [] h Q := by
  refine wp_go rfl rfl ?_
  refine e_get rfl H71 rfl rfl ?_
  refine wp_go rfl rfl ?_
  refine wp_go rfl rfl ?_
  refine e_ifne rfl (fun c6 => ?_) (fun c6 => absurd c6 (by omega))
  refine wp_go rfl rfl ?_
  refine e_iastE (p := S) rfl H82 ⟨by omega, by omega⟩ ?_
  refine wp_go rfl rfl ?_
  refine e_ifne rfl (fun c16 => ?_) (fun c16 => absurd c16 (by omega))
  refine wp_go rfl rfl ?_
  refine wp_go rfl rfl ?_
  refine wp_call rfl rfl rfl rfl ?_
  refine c_mlow h1 hS ?_
  refine wp_go rfl rfl ?_
  refine e_istn (L' := [xR 71, xI (S : Int), xI (hc_shl 1 ((tz S : Nat) : Int)), none, none]) rfl rfl rfl ?_
  refine wp_go rfl rfl ?_
  refine e_istn (L' := [xR 71, xI (S : Int), xI (hc_shl 1 ((tz S : Nat) : Int)), xI 1, none]) rfl rfl rfl ?_
  exact l_mfind h1 hS hM k (S + 1) 0 _ _ (by omega) H71 H81 rfl (Fr.rf.wr rfl)
set_option maxRecDepth 100000 in
theorem c_mfind0 {d : Nat} {h : hc_H} {Q : List hc_V → hc_H → Prop} {s M : Nat → Int} (H71 : h.2.2 71 = mo s) (H82 : h.2.2 82 = ar 256 M) (k : ∀ h2, h2.2.2 82 = ar 256 (hc_u M 0 0) → Fr [82] h h2 → Q [] h2) : hc_wp (d + 2) mX10_findMost 0 [xR 71, xI 0, none, none, none] [] h Q := by
  refine wp_go rfl rfl ?_
  refine e_get rfl H71 rfl rfl ?_
  refine wp_go rfl rfl ?_
  refine wp_go rfl rfl ?_
  refine wp_go rfl rfl ?_
  refine wp_go rfl rfl ?_
  refine wp_go rfl rfl ?_
  refine e_iastE (p := 0) rfl H82 ⟨by omega, by omega⟩ ?_
  refine wp_go rfl rfl ?_
  refine wp_go rfl rfl ?_
  refine wp_ret rfl rfl ?_
  exact k _ rfl (Fr.rf.wr rfl)
