/-! the reference: lower numbers of pairs -/
def lwp (mk : Nat → Int) (i j : Nat) : Nat := lwn (Int.toNat (if i = j then mk i else mk i + mk j))
/-- the rows below i, and of row i the places below j, stand -/
def LWT (mk lw : Nat → Int) (nf i j : Nat) : Prop := (∀ p q, p < i → q < nf → lw (8 * p + q) = ((lwp mk p q : Nat) : Int)) ∧ ∀ q, q < j → lw (8 * i + q) = ((lwp mk i q : Nat) : Int)
theorem LWT.s {mk lw : Nat → Int} {nf i j : Nat} (H : LWT mk lw nf i j) (hi : i < 8) (hj : j < nf) (hn : nf ≤ 8) : LWT mk (hc_u lw (8 * i + j) ((lwp mk i j : Nat) : Int)) nf i (j + 1) := by
  refine ⟨fun p q hp hq => ?_, fun q hq => ?_⟩
  · rw [hu_n (by omega)]
    exact H.1 p q hp hq
  · by_cases c : q = j
    · rw [c, hu_s]
    · rw [hu_n (by omega)]
      exact H.2 q (by omega)
theorem mk_two {s : cT} {i j : Nat} (hs : cOK s) (hi : i < s.nf) (hj : j < s.nf) (hne : i ≠ j) : s.mk i + s.mk j ≤ 720720 := by
  obtain ⟨h1, ⟨a, b, c⟩, _⟩ := hs
  have z0 := a 0 (by decide)
  have z1 := a 1 (by decide)
  have z2 := a 2 (by decide)
  have z3 := a 3 (by decide)
  have z4 := a 4 (by decide)
  have z5 := a 5 (by decide)
  have z6 := a 6 (by decide)
  have z7 := a 7 (by decide)
  simp only [smk] at c
  have key : ∀ p : Nat, p < 8 → p = 0 ∨ p = 1 ∨ p = 2 ∨ p = 3 ∨ p = 4 ∨ p = 5 ∨ p = 6 ∨ p = 7 := fun p hp => by omega
  rcases key i (by omega) with e | e | e | e | e | e | e | e <;> rcases key j (by omega) with e2 | e2 | e2 | e2 | e2 | e2 | e2 | e2 <;> subst e <;> subst e2 <;> omega
set_option maxRecDepth 100000 in
theorem l_mlow2 {d : Nat} {h0 : hc_H} {Q : List hc_V → hc_H → Prop} {i : Nat} {s A : Nat → Int} {cs : cT} {e : dX} (hs : cOK cs) (hi : i < cs.nf) (H : RA A cs e) (k : ∀ h2 lw2 j2, LWT cs.mk lw2 cs.nf i cs.nf → h2.2.2 71 = mo s → h2.2.2 72 = ar 456 A → h2.2.2 86 = ar 64 lw2 → Fr [86] h0 h2 → hc_wp (d + 2) mX10_findLowers 68 [xR 71, xI (i : Int), xI j2] [] h2 Q) : ∀ (n j : Nat) (lw : Nat → Int) (h : hc_H), (j ≤ cs.nf ∧ cs.nf < j + n) → LWT cs.mk lw cs.nf i j → h.2.2 71 = mo s → h.2.2 72 = ar 456 A → h.2.2 86 = ar 64 lw → Fr [86] h0 h → hc_wp (d + 2) mX10_findLowers 14 [xR 71, xI (i : Int), xI (j : Int)] [] h Q := by
  have hn8 := hs.1
  intro n
  induction n with
  | zero =>
    intro j lw h hj
    exact absurd hj (by omega)
  | succ n ih =>
    intro j lw h hj HL H71 H72 H86 HF
    refine wp_go rfl rfl ?_
    refine wp_go rfl rfl ?_
    refine e_get rfl H71 rfl rfl ?_
    refine wp_go rfl rfl ?_
    refine e_aldE (p := 0) rfl H72 rfl ⟨by omega, by omega⟩ ?_
    rw [show A 0 = (cs.nf : Int) from H.1.1]
    refine e_cge rfl (fun c21 => ?_) (fun c21 => ?_)
    · skip
      exact k h lw (j : Int) (by rw [show j = cs.nf by omega] at HL; exact HL) H71 H72 H86 HF
    · skip
      have hmi := hs.2.1.1 i (by omega)
      have hmj := hs.2.1.1 j (by omega)
      refine wp_go rfl rfl ?_
      refine e_get rfl H71 rfl rfl ?_
      refine wp_go rfl rfl ?_
      refine wp_go rfl rfl ?_
      refine e_imul rfl (by omega) ?_
      refine wp_go rfl rfl ?_
      refine e_iadd rfl (by omega) ?_
      refine wp_go rfl rfl ?_
      refine wp_go rfl rfl ?_
      refine e_cne rfl (fun c36 => ?_) (fun c36 => ?_)
      · skip
        refine wp_go rfl rfl ?_
        refine wp_go rfl rfl ?_
        refine wp_cv rfl rfl rfl H71 rfl rfl rfl ?_
        refine c_marksOf (p := i) H71 H72 (by omega) ?_
        rw [(H.2.1 i (by omega)).1]
        refine wp_go rfl rfl ?_
        refine wp_go rfl rfl ?_
        refine wp_cv rfl rfl rfl H71 rfl rfl rfl ?_
        refine c_marksOf (p := j) H71 H72 (by omega) ?_
        rw [(H.2.1 j (by omega)).1]
        refine e_iadd rfl (by omega) ?_
        refine wp_call rfl rfl rfl rfl ?_
        have hle : cs.mk i + cs.mk j ≤ 720720 := mk_two hs (by omega) (by omega) (by omega)
        have hlw : lwp cs.mk i j = lwn (Int.toNat (cs.mk i + cs.mk j)) := by unfold lwp; rw [if_neg (by omega)]
        rw [show (cs.mk i + cs.mk j : Int) = ((Int.toNat (cs.mk i + cs.mk j) : Nat) : Int) by omega]
        refine c_mlower (d := d) (by omega) ?_
        rw [← hlw]
        refine e_iastE (p := 8 * i + j) rfl H86 ⟨by omega, by omega⟩ ?_
        refine e_inc (L' := [xR 71, xI (i : Int), xI ((j : Int) + 1)]) rfl rfl (by omega) rfl ?_
        refine wp_go rfl rfl ?_
        exact ih (j + 1) _ _ (by omega) (HL.s (by omega) (by omega) hn8) H71 H72 rfl (HF.wr rfl)
      · skip
        refine wp_go rfl rfl ?_
        refine wp_go rfl rfl ?_
        refine wp_cv rfl rfl rfl H71 rfl rfl rfl ?_
        refine c_marksOf (p := i) H71 H72 (by omega) ?_
        rw [(H.2.1 i (by omega)).1]
        refine wp_go rfl rfl ?_
        refine wp_call rfl rfl rfl rfl ?_
        have hle : cs.mk i ≤ 720720 := by omega
        have hlw : lwp cs.mk i j = lwn (Int.toNat (cs.mk i)) := by unfold lwp; rw [if_pos (by omega)]
        rw [show (cs.mk i : Int) = ((Int.toNat (cs.mk i) : Nat) : Int) by omega]
        refine c_mlower (d := d) (by omega) ?_
        rw [← hlw]
        refine e_iastE (p := 8 * i + j) rfl H86 ⟨by omega, by omega⟩ ?_
        refine e_inc (L' := [xR 71, xI (i : Int), xI ((j : Int) + 1)]) rfl rfl (by omega) rfl ?_
        refine wp_go rfl rfl ?_
        exact ih (j + 1) _ _ (by omega) (HL.s (by omega) (by omega) hn8) H71 H72 rfl (HF.wr rfl)
