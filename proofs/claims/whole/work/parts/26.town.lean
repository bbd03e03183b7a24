/-! the class: Town, fourth part: payments and days -/
def TS (h : hc_H) (nf : Nat) (dy rn x wt tc ru sc : Int) (mk sl : Nat → Int) (tx : Nat → Option Nat) (fs ct : Int) (rw : Nat → Int) : Prop :=
  h.2.2 23 = tw (nf : Int) dy rn x wt tc ru sc ∧ h.2.2 27 = ar 8 mk ∧ h.2.2 28 = ar 8 sl ∧ h.2.2 29 = .inl (3, 4, .inr tx) ∧ h.2.2 30 = stp fs ct ∧ h.2.2 31 = ar 330 rw ∧ WS h
def MK (nf : Nat) (mk : Nat → Int) : Prop := (∀ j, j < 8 → 0 ≤ mk j ∧ mk j ≤ 720720) ∧ (∀ j, nf ≤ j → j < 8 → mk j = 0) ∧ smk mk 8 ≤ 720720
def SL (sl : Nat → Int) : Prop := ∀ j, j < 8 → 0 ≤ sl j ∧ sl j ≤ 9
def FT (fs ct : Int) : Prop := 0 ≤ fs ∧ fs < 30 ∧ 0 ≤ ct ∧ ct ≤ 30
theorem FT.keep {fs ct : Int} (h : FT fs ct) : FT (kfs fs ct) (kct ct) := by
  obtain ⟨h1, h2, h3, h4⟩ := h
  unfold FT kfs kct
  split <;> omega
abbrev fl7 : List Nat := [23, 24, 25, 26, 27, 30, 31]
def ddm (fr : Option ef) (mk sl : Nat → Int) (dy wt : Int) (j : Nat) : Nat → Int := fun p => if p < j then mk p - rbv fr (p : Int) (mk p) dy (sl p) wt else mk p
theorem ddm_s {fr : Option ef} {mk sl : Nat → Int} {dy wt : Int} {j : Nat} : hc_u (ddm fr mk sl dy wt j) j (mk j - rbv fr (j : Int) (mk j) dy (sl j) wt) = ddm fr mk sl dy wt (j + 1) := by
  funext p
  unfold hc_u ddm
  by_cases h : p = j
  · subst h
    rw [if_pos rfl, if_pos (by omega)]
  · rw [if_neg h]
    by_cases h2 : p < j
    · rw [if_pos h2, if_pos (by omega)]
    · rw [if_neg h2, if_neg (by omega)]
theorem ddm_at {fr : Option ef} {mk sl : Nat → Int} {dy wt : Int} {j : Nat} : ddm fr mk sl dy wt j j = mk j := by simp [ddm]
set_option maxRecDepth 100000 in
theorem l_day {d : Nat} {h0 : hc_H} {Q : List hc_V → hc_H → Prop} {nf : Nat} {dy rn x wt tc ru sc : Int} {mk sl : Nat → Int} {q : Option Nat} {ft fr : Option ef} {nc : Nat} {rows : Nat → Int} (hnf : nf ≤ 8) (hmk : ∀ j, j < 8 → 0 ≤ mk j ∧ mk j ≤ 720720) (hsl : SL sl) (hdy : 0 ≤ dy ∧ dy ≤ 2000) (hwt : wt = 0 ∨ wt = 1) (k : ∀ h, h.2.2 23 = tw (nf : Int) dy rn x wt tc ru sc → h.2.2 27 = ar 8 (ddm fr mk sl dy wt nf) → h.2.2 28 = ar 8 sl → WS h → TXQ h q ft fr nc rows → Fr [24, 25, 26, 27] h0 h → Q [] h) : ∀ (n j : Nat) (i : Int) (h : hc_H), i = (j : Int) → j ≤ nf → nf < j + n → h.2.2 23 = tw (nf : Int) dy rn x wt tc ru sc → h.2.2 27 = ar 8 (ddm fr mk sl dy wt j) → h.2.2 28 = ar 8 sl → WS h → TXQ h q ft fr nc rows → Fr [24, 25, 26, 27] h0 h → True → hc_wp (d + 4) mX7_oneDay 71 [xR 23, xQ q, xI i] [] h Q := by
  intro n
  induction n with
  | zero =>
    intro j i h e hle hn
    exact absurd hn (by omega)
  | succ n ih =>
    intro j i h e hle hn H23 H27 H28 HW HT HF hn2
    refine wp_go rfl rfl ?_
    refine wp_go rfl rfl ?_
    refine e_get rfl H23 rfl rfl ?_
    refine e_cge rfl (fun c76 => ?_) (fun c76 => ?_)
    · skip
      refine wp_ret rfl rfl ?_
      rw [show j = nf by omega] at H27
      exact k h H23 H27 H28 HW HT HF
    · skip
      refine wp_go rfl rfl ?_
      refine wp_go rfl rfl ?_
      refine e_cge rfl (fun c82 => ?_) (fun c82 => ?_)
      · skip
        refine wp_ret rfl rfl ?_
        rw [show j = nf by omega] at H27
        exact k h H23 H27 H28 HW HT HF
      · skip
        have hi : Int.toNat i = j := by omega
        have hmj := hmk j (by omega)
        have hdj : ddm fr mk sl dy wt j (Int.toNat i) = mk j := by rw [hi, ddm_at]
        have hmi : 0 ≤ ddm fr mk sl dy wt j (Int.toNat i) ∧ ddm fr mk sl dy wt j (Int.toNat i) ≤ 720720 := by rw [hdj]; exact hmj
        refine wp_go rfl rfl ?_
        refine e_get rfl H23 rfl rfl ?_
        refine wp_go rfl rfl ?_
        refine wp_go rfl rfl ?_
        refine e_ald rfl H27 rfl (by omega) ?_
        refine wp_go rfl rfl ?_
        refine wp_go rfl rfl ?_
        refine wp_go rfl rfl ?_
        refine wp_go rfl rfl ?_
        refine e_get rfl H23 rfl rfl ?_
        refine wp_go rfl rfl ?_
        refine e_ald rfl H27 rfl (by omega) ?_
        refine wp_go rfl rfl ?_
        refine e_get rfl H23 rfl rfl ?_
        refine wp_go rfl rfl ?_
        refine e_get rfl H23 rfl rfl ?_
        refine wp_cv rfl rfl rfl H23 rfl rfl rfl ?_
        refine c_rubs H23 H28 HW HT (by omega) hsl (by omega) hdy hwt (fun h2 W2 F2 => ?_)
        obtain ⟨rv, hrv⟩ : ∃ z : Int, z = rbv fr i (ddm fr mk sl dy wt j (Int.toNat i)) dy (sl (Int.toNat i)) wt := ⟨_, rfl⟩
        rw [← hrv]
        have hrb := rbv_bd (fr := fr) (who := i) (has := ddm fr mk sl dy wt j (Int.toNat i)) (day := dy) (sl := sl (Int.toNat i)) (wet := wt) (by omega)
        rw [← hrv] at hrb
        have G23 := (F2.2.2 23 rfl).trans H23
        have G27 := (F2.2.2 27 rfl).trans H27
        refine e_isub rfl (by omega) ?_
        refine e_iast rfl G27 (by omega) ?_
        refine e_inc (L' := [xR 23, xQ q, xI (i + 1)]) rfl rfl (by omega) rfl ?_
        refine wp_go rfl rfl ?_
        have e9 : hc_u (ddm fr mk sl dy wt j) (Int.toNat i) (ddm fr mk sl dy wt j (Int.toNat i) - rv) = ddm fr mk sl dy wt (j + 1) := by
          rw [hrv, hi, ddm_at, e, ddm_s]
        have F3 := F2.big rfl
        refine ih (j + 1) _ _ ?_ ?_ ?_ ?_ ?_ ?_ ?_ ?_ ?_ ?_
        · omega
        · omega
        · omega
        · exact G23
        · rw [e9]
          rfl
        · exact (F2.2.2 28 rfl).trans H28
        · exact W2
        · exact HT.kept (fun a ha => hw_ne (by omega) (F3 a ha))
        · exact (HF.tr (l2 := [24, 25, 26, 27]) (F2.tr (Fr.rf.wr rfl) (nin_sub rfl)) (fun _ z => z))
        · exact hn2
