/-! the law: its loop -/
set_option maxRecDepth 100000 in
theorem law_loop {d L : Nat} {xs : Nat → Int} {Q : List hc_V → hc_H → Prop} (hL : L ≤ 3072) (hx : ∀ j, -2147483648 ≤ xs j ∧ xs j ≤ 2147483647) (kq : ∀ h2 : hc_H, h2.1 ≤ 600022 → h2.2.1 ≤ 7302250 → Q [xI 1] h2) : ∀ (g c i : Nat) (h : hc_H), i = 6 * c → L < 6 * c + 6 * g → 6 * c ≤ L → INV h L xs → h.1 ≤ 91 + 30 * c → h.2.1 ≤ 20000 + 8000 * c → hc_wp (d + 201) mL_law 18 [xR 0, xR 22, xR 71, xI (i : Int)] [] h Q := by
  intro g
  induction g with
  | zero =>
    intro c i h hi hg hc I h1 h2
    exact absurd hg (by omega)
  | succ g ih =>
    intro c i h hi hg hc I hh1 hh2
    obtain ⟨H0, n22, H22⟩ := I.p
    have kk : 6 * c + 6 ≤ L → ∀ h2, RM L xs h h2 → hc_wp (d + 201) mL_law 905 [xR 0, xR 22, xR 71, xI (i : Int)] [] h2 Q := fun hc6 h2 J => by
      refine e_inc (L' := [xR 0, xR 22, xR 71, xI ((i : Int) + 6)]) rfl rfl (by omega) rfl ?_
      refine wp_go rfl rfl ?_
      rw [show ((i : Int) + 6) = ((i + 6 : Nat) : Int) by omega]
      have j2 := J.2.1
      have j3 := J.2.2
      exact ih (c + 1) (i + 6) h2 (by omega) (by omega) (by omega) J.1 (by omega) (by omega)
    refine wp_go rfl rfl ?_
    refine wp_go rfl rfl ?_
    refine e_alen rfl H0 rfl (by omega) ?_
    refine wp_go rfl rfl ?_
    refine e_isub rfl (by omega) ?_
    refine e_cgt rfl (fun c24 => ?_) (fun c24 => ?_)
    · skip
      refine wp_go rfl rfl ?_
      refine wp_ret rfl rfl ?_
      exact kq h (by omega) (by omega)
    · skip
      refine wp_go rfl rfl ?_
      refine wp_go rfl rfl ?_
      refine e_aldE (p := i) rfl H0 rfl ⟨by omega, by omega⟩ ?_
      refine wp_go rfl rfl ?_
      refine wp_go rfl rfl ?_
      generalize hc_and (xs i) 31 = sv
      by_cases z33_0 : sv = 0
      · subst z33_0
        refine wp_go rfl rfl ?_
        exact z_folk (by omega) hL hx I (kk (by omega))
      by_cases z33_1 : sv = 1
      · subst z33_1
        refine wp_go rfl rfl ?_
        exact z_weather (by omega) hL hx I (kk (by omega))
      by_cases z33_2 : sv = 2
      · subst z33_2
        refine wp_go rfl rfl ?_
        exact z_feed (by omega) hL hx I (kk (by omega))
      by_cases z33_3 : sv = 3
      · subst z33_3
        refine wp_go rfl rfl ?_
        exact z_end (by omega) hL hx I (kk (by omega))
      by_cases z33_4 : sv = 4
      · subst z33_4
        refine wp_go rfl rfl ?_
        exact z_text (by omega) hL hx I (kk (by omega))
      by_cases z33_5 : sv = 5
      · subst z33_5
        refine wp_go rfl rfl ?_
        exact z_fault (by omega) hL hx I (kk (by omega))
      by_cases z33_6 : sv = 6
      · subst z33_6
        refine wp_go rfl rfl ?_
        exact z_by (by omega) hL hx I (kk (by omega))
      by_cases z33_7 : sv = 7
      · subst z33_7
        refine wp_go rfl rfl ?_
        exact z_grant (by omega) hL hx I (kk (by omega))
      by_cases z33_8 : sv = 8
      · subst z33_8
        refine wp_go rfl rfl ?_
        exact z_pay (by omega) hL hx I (kk (by omega))
      by_cases z33_9 : sv = 9
      · subst z33_9
        refine wp_go rfl rfl ?_
        exact z_pass (by omega) hL hx I (kk (by omega))
      by_cases z33_10 : sv = 10
      · subst z33_10
        refine wp_go rfl rfl ?_
        exact z_played (by omega) hL hx I (kk (by omega))
      by_cases z33_11 : sv = 11
      · subst z33_11
        refine wp_go rfl rfl ?_
        exact z_undo (by omega) hL hx I (kk (by omega))
      by_cases z33_12 : sv = 12
      · subst z33_12
        refine wp_go rfl rfl ?_
        exact z_marks (by omega) hL hx I (kk (by omega))
      by_cases z33_13 : sv = 13
      · subst z33_13
        refine wp_go rfl rfl ?_
        exact z_share (by omega) hL hx I (kk (by omega))
      by_cases z33_14 : sv = 14
      · subst z33_14
        refine wp_go rfl rfl ?_
        exact z_owes (by omega) hL hx I (kk (by omega))
      by_cases z33_15 : sv = 15
      · subst z33_15
        refine wp_go rfl rfl ?_
        exact z_netted (by omega) hL hx I (kk (by omega))
      by_cases z33_16 : sv = 16
      · subst z33_16
        refine wp_go rfl rfl ?_
        exact z_married (by omega) hL hx I (kk (by omega))
      by_cases z33_17 : sv = 17
      · subst z33_17
        refine wp_go rfl rfl ?_
        exact z_bell (by omega) hL hx I (kk (by omega))
      by_cases z33_18 : sv = 18
      · subst z33_18
        refine wp_go rfl rfl ?_
        exact z_cost (by omega) hL hx I (kk (by omega))
      by_cases z33_19 : sv = 19
      · subst z33_19
        refine wp_go rfl rfl ?_
        exact z_best (by omega) hL hx I (kk (by omega))
      by_cases z33_20 : sv = 20
      · subst z33_20
        refine wp_go rfl rfl ?_
        exact z_seen (by omega) hL hx I (kk (by omega))
      by_cases z33_21 : sv = 21
      · subst z33_21
        refine wp_go rfl rfl ?_
        exact z_rubbed (by omega) hL hx I (kk (by omega))
      by_cases z33_22 : sv = 22
      · subst z33_22
        refine wp_go rfl rfl ?_
        exact z_image (by omega) hL hx I (kk (by omega))
      by_cases z33_23 : sv = 23
      · subst z33_23
        refine wp_go rfl rfl ?_
        exact z_back (by omega) hL hx I (kk (by omega))
      by_cases z33_24 : sv = 24
      · subst z33_24
        refine wp_go rfl rfl ?_
        exact z_about (by omega) hL hx I (kk (by omega))
      refine e_tswd [0, 1, 2, 3, 4, 5, 6, 7, 8, 9, 10, 11, 12, 13, 14, 15, 16, 17, 18, 19, 20, 21, 22, 23, 24] rfl (by decide) rfl ?_ ?_
      · simp [z33_0, z33_1, z33_2, z33_3, z33_4, z33_5, z33_6, z33_7, z33_8, z33_9, z33_10, z33_11, z33_12, z33_13, z33_14, z33_15, z33_16, z33_17, z33_18, z33_19, z33_20, z33_21, z33_22, z33_23, z33_24]
      exact kk (by omega) h (RM.rf I)
