/-! the class: Town, tenth part: the bell's parts -/
theorem blf_bd {n S : Int} {mk : Nat → Int} (hn : 1 ≤ n ∧ n ≤ 720720) (hS : 1 ≤ S) : ∀ j : Nat, (∀ p, p < j → (0 ≤ mk p ∧ mk p ≤ 720720) ∧ mk p ≤ S) → n - 720720 * (j : Int) ≤ blf n mk S j ∧ blf n mk S j ≤ n := by
  intro j
  induction j with
  | zero =>
    intro _
    simp only [blf]
    omega
  | succ j ih =>
    intro hp
    have a := ih (fun p h => hp p (by omega))
    have b := hp j (by omega)
    have c := be_ar hn b.1 hS b.2
    simp only [blf]
    omega
set_option maxRecDepth 100000 in
theorem l_be {d : Nat} {h : hc_H} {Q : List hc_V → hc_H → Prop} {nf : Nat} {dy rn x wt tc ru sc n S who ow : Int} {mk : Nat → Int} (H23 : h.2.2 23 = tw (nf : Int) dy rn x wt tc ru sc) (H27 : h.2.2 27 = ar 8 mk) (hnf : nf ≤ 8) (hmk : ∀ j, j < 8 → 0 ≤ mk j ∧ mk j ≤ 720720) (hms : ∀ j, j < nf → mk j ≤ S) (hn : 1 ≤ n ∧ n ≤ 720720) (hS : 1 ≤ S) (hS2 : S ≤ 720720) (how : ow = n * mk (Int.toNat who)) (hbo : (0 ≤ ow ∧ ow ≤ 519437318400) ∧ Int.tdiv ow S = ow / S ∧ (0 ≤ ow / S ∧ ow / S ≤ 720720) ∧ Int.tmod ow S = ow % S ∧ (0 ≤ ow % S ∧ ow % S < S)) (k : Q [xI (ow / S + if blr n mk S who nf < blf n mk S nf then 1 else 0)] h) : ∀ (m j : Nat) (le rk i : Int) (l10 l12 : hc_V), i = (j : Int) → j ≤ nf → nf < j + m → le = blf n mk S j → rk = blr n mk S who j → hc_wp d mX7_partOfBell 42 [xR 23, xI n, xI who, xI S, xL ow, none, xL le, none, xI rk, xI i, l10, none, l12, none] [] h Q := by
  intro m
  induction m with
  | zero =>
    intro j le rk i l10 l12 e hj hlt
    exact absurd hlt (by omega)
  | succ m ih =>
    intro j le rk i l10 l12 e hj hlt hle hrk
    have hleb := blf_bd hn hS (mk := mk) j (fun p hp => ⟨hmk p (by omega), hms p (by omega)⟩)
    have hrkb := blr_bd (n := n) (mk := mk) (S := S) (who := who) j
    rw [← hle] at hleb
    rw [← hrk] at hrkb
    refine wp_go rfl rfl ?_
    refine wp_go rfl rfl ?_
    refine e_get rfl H23 rfl rfl ?_
    refine e_cge rfl (fun c48 => ?_) (fun c48 => ?_)
    · skip
      refine wp_go rfl rfl ?_
      refine wp_go rfl rfl ?_
      refine wp_go rfl rfl ?_
      refine e_ldiv rfl (by omega) (by omega) ?_
      rw [hbo.2.1]
      refine wp_go rfl rfl ?_
      rw [hc_l2i_id (by omega) (by omega)]
      refine wp_go rfl rfl ?_
      refine wp_go rfl rfl ?_
      refine wp_go rfl rfl ?_
      refine wp_go rfl rfl ?_
      refine e_ifge rfl (fun c135 => ?_) (fun c135 => ?_)
      · skip
        refine wp_go rfl rfl ?_
        refine e_iadd rfl (by omega) ?_
        refine wp_ret rfl rfl ?_
        rw [show j = nf by omega] at hle hrk
        have z135 := cmp3_ge (x := rk) (y := le)
        rw [if_neg (by rw [← hle, ← hrk]; omega)] at k
        exact k
      · skip
        refine wp_go rfl rfl ?_
        refine wp_go rfl rfl ?_
        refine e_iadd rfl (by omega) ?_
        refine wp_ret rfl rfl ?_
        rw [show j = nf by omega] at hle hrk
        have z135 := cmp3_ge (x := rk) (y := le)
        rw [if_pos (by rw [← hle, ← hrk]; omega)] at k
        exact k
    · skip
      refine wp_go rfl rfl ?_
      refine wp_go rfl rfl ?_
      refine e_cge rfl (fun c55 => ?_) (fun c55 => ?_)
      · skip
        refine wp_go rfl rfl ?_
        refine wp_go rfl rfl ?_
        refine wp_go rfl rfl ?_
        refine e_ldiv rfl (by omega) (by omega) ?_
        rw [hbo.2.1]
        refine wp_go rfl rfl ?_
        rw [hc_l2i_id (by omega) (by omega)]
        refine wp_go rfl rfl ?_
        refine wp_go rfl rfl ?_
        refine wp_go rfl rfl ?_
        refine wp_go rfl rfl ?_
        refine e_ifge rfl (fun c135 => ?_) (fun c135 => ?_)
        · skip
          refine wp_go rfl rfl ?_
          refine e_iadd rfl (by omega) ?_
          refine wp_ret rfl rfl ?_
          rw [show j = nf by omega] at hle hrk
          have z135 := cmp3_ge (x := rk) (y := le)
          rw [if_neg (by rw [← hle, ← hrk]; omega)] at k
          exact k
        · skip
          refine wp_go rfl rfl ?_
          refine wp_go rfl rfl ?_
          refine e_iadd rfl (by omega) ?_
          refine wp_ret rfl rfl ?_
          rw [show j = nf by omega] at hle hrk
          have z135 := cmp3_ge (x := rk) (y := le)
          rw [if_pos (by rw [← hle, ← hrk]; omega)] at k
          exact k
      · skip
        have hmi := hmk (Int.toNat i) (by omega)
        have hmS := hms (Int.toNat i) (by omega)
        have hb := be_ar hn hmi hS hmS
        refine wp_go rfl rfl ?_
        refine wp_go rfl rfl ?_
        refine wp_go rfl rfl ?_
        refine e_get rfl H23 rfl rfl ?_
        refine wp_go rfl rfl ?_
        refine e_ald rfl H27 rfl (by omega) ?_
        refine wp_go rfl rfl ?_
        refine e_lmul rfl (by omega) ?_
        refine e_lst (L' := [xR 23, xI n, xI who, xI S, xL ow, none, xL le, none, xI rk, xI i, xL (n * (mk (Int.toNat i))), none, l12, none]) rfl rfl rfl ?_
        obtain ⟨pr, hpr⟩ : ∃ z : Int, z = (n * (mk (Int.toNat i))) := ⟨_, rfl⟩
        rw [← hpr]
        rw [← hpr] at hb
        refine wp_go rfl rfl ?_
        refine wp_go rfl rfl ?_
        refine wp_go rfl rfl ?_
        refine wp_go rfl rfl ?_
        refine e_ldiv rfl (by omega) (by omega) ?_
        refine e_lsub rfl (by omega) ?_
        refine e_lst (L' := [xR 23, xI n, xI who, xI S, xL ow, none, xL (le - (Int.tdiv pr S)), none, xI rk, xI i, xL pr, none, l12, none]) rfl rfl rfl ?_
        rw [hb.2.1]
        refine wp_go rfl rfl ?_
        refine wp_go rfl rfl ?_
        refine wp_go rfl rfl ?_
        refine e_lrem rfl (by omega) ?_
        refine wp_go rfl rfl ?_
        refine wp_go rfl rfl ?_
        refine wp_go rfl rfl ?_
        refine e_lrem rfl (by omega) ?_
        refine e_lsub rfl (by omega) ?_
        refine e_lst (L' := [xR 23, xI n, xI who, xI S, xL ow, none, xL (le - pr / S), none, xI rk, xI i, xL pr, none, xL ((Int.tmod pr S) - (Int.tmod ow S)), none]) rfl rfl rfl ?_
        rw [hb.2.2.2.1, hbo.2.2.2.1]
        obtain ⟨df, hdf⟩ : ∃ z : Int, z = pr % S - ow % S := ⟨_, rfl⟩
        rw [← hdf]
        have z98 := cmp3_gt (x := df) (y := 0)
        have z105 := cmp3_ne (x := df) (y := 0)
        refine wp_go rfl rfl ?_
        refine e_lconst 0 rfl rfl ?_
        refine wp_go rfl rfl ?_
        refine e_ifgt rfl (fun c98 => ?_) (fun c98 => ?_)
        · skip
          refine e_inc (L' := [xR 23, xI n, xI who, xI S, xL ow, none, xL (le - pr / S), none, xI (rk + 1), xI i, xL pr, none, xL df, none]) rfl rfl (by omega) rfl ?_
          refine e_inc (L' := [xR 23, xI n, xI who, xI S, xL ow, none, xL (le - pr / S), none, xI (rk + 1), xI (i + 1), xL pr, none, xL df, none]) rfl rfl (by omega) rfl ?_
          refine wp_go rfl rfl ?_
          have hi : Int.toNat i = j := by omega
          rw [hi] at hpr
          refine ih (j + 1) _ _ _ _ _ (by omega) (by omega) (by omega) ?_ ?_
          · simp only [blf]
            rw [← hle, ← hpr]
          · simp only [blr]
            rw [if_pos ?_, ← hrk]
            unfold blb
            rw [decide_eq_true_eq, ← hpr, ← how]
            omega
        · skip
          refine wp_go rfl rfl ?_
          refine e_lconst 0 rfl rfl ?_
          refine wp_go rfl rfl ?_
          refine e_ifne rfl (fun c105 => ?_) (fun c105 => ?_)
          · skip
            refine e_inc (L' := [xR 23, xI n, xI who, xI S, xL ow, none, xL (le - pr / S), none, xI rk, xI (i + 1), xL pr, none, xL df, none]) rfl rfl (by omega) rfl ?_
            refine wp_go rfl rfl ?_
            have hi : Int.toNat i = j := by omega
            rw [hi] at hpr
            refine ih (j + 1) _ _ _ _ _ (by omega) (by omega) (by omega) ?_ ?_
            · simp only [blf]
              rw [← hle, ← hpr]
            · simp only [blr]
              rw [if_neg ?_, ← hrk]
              unfold blb
              rw [decide_eq_true_eq, ← hpr, ← how]
              omega
          · skip
            refine wp_go rfl rfl ?_
            refine wp_go rfl rfl ?_
            refine e_cge rfl (fun c111 => ?_) (fun c111 => ?_)
            · skip
              refine e_inc (L' := [xR 23, xI n, xI who, xI S, xL ow, none, xL (le - pr / S), none, xI rk, xI (i + 1), xL pr, none, xL df, none]) rfl rfl (by omega) rfl ?_
              refine wp_go rfl rfl ?_
              have hi : Int.toNat i = j := by omega
              rw [hi] at hpr
              refine ih (j + 1) _ _ _ _ _ (by omega) (by omega) (by omega) ?_ ?_
              · simp only [blf]
                rw [← hle, ← hpr]
              · simp only [blr]
                rw [if_neg ?_, ← hrk]
                unfold blb
                rw [decide_eq_true_eq, ← hpr, ← how]
                omega
            · skip
              refine e_inc (L' := [xR 23, xI n, xI who, xI S, xL ow, none, xL (le - pr / S), none, xI (rk + 1), xI i, xL pr, none, xL df, none]) rfl rfl (by omega) rfl ?_
              refine e_inc (L' := [xR 23, xI n, xI who, xI S, xL ow, none, xL (le - pr / S), none, xI (rk + 1), xI (i + 1), xL pr, none, xL df, none]) rfl rfl (by omega) rfl ?_
              refine wp_go rfl rfl ?_
              have hi : Int.toNat i = j := by omega
              rw [hi] at hpr
              refine ih (j + 1) _ _ _ _ _ (by omega) (by omega) (by omega) ?_ ?_
              · simp only [blf]
                rw [← hle, ← hpr]
              · simp only [blr]
                rw [if_pos ?_, ← hrk]
                unfold blb
                rw [decide_eq_true_eq, ← hpr, ← how]
                omega
set_option maxRecDepth 100000 in
theorem c_partOfBell {d : Nat} {h : hc_H} {Q : List hc_V → hc_H → Prop} {nf : Nat} {dy rn x wt tc ru sc n who : Int} {mk : Nat → Int} (H23 : h.2.2 23 = tw (nf : Int) dy rn x wt tc ru sc) (H27 : h.2.2 27 = ar 8 mk) (hnf : nf ≤ 8) (hM : MK nf mk) (hn : 1 ≤ n ∧ n ≤ 720720) (kf : ¬ (1 ≤ smk mk nf ∧ 0 ≤ who ∧ who < (nf : Int)) → Q [xI (-1)] h) (kt : (1 ≤ smk mk nf ∧ 0 ≤ who ∧ who < (nf : Int)) → Q [xI (n * mk (Int.toNat who) / smk mk nf + if blr n mk (smk mk nf) who nf < blf n mk (smk mk nf) nf then 1 else 0)] h) : hc_wp (d + 1) mX7_partOfBell 0 [xR 23, xI n, xI who, none, none, none, none, none, none, none, none, none, none, none] [] h Q := by
  refine wp_go rfl rfl ?_
  refine wp_cv rfl rfl rfl H23 rfl rfl rfl ?_
  refine c_marksOfFolk H23 H27 hnf hM.1 ?_
  obtain ⟨S, hSS⟩ : ∃ z : Int, z = smk mk nf := ⟨_, rfl⟩
  rw [← hSS]
  refine e_istn (L' := [xR 23, xI n, xI who, xI S, none, none, none, none, none, none, none, none, none, none]) rfl rfl rfl ?_
  refine wp_go rfl rfl ?_
  refine wp_go rfl rfl ?_
  refine e_clt rfl (fun c7 => ?_) (fun c7 => ?_)
  · skip
    refine wp_go rfl rfl ?_
    refine wp_ret rfl rfl ?_
    exact kf (by omega)
  · skip
    refine wp_go rfl rfl ?_
    refine wp_go rfl rfl ?_
    refine wp_cv rfl rfl rfl H23 rfl rfl rfl ?_
    refine c_isFolk H23 (fun q12 => ?_) (fun q12 => ?_)
    · skip
      refine wp_go rfl rfl ?_
      have hms : ∀ j, j < nf → mk j ≤ S := by
        rw [hSS]
        exact (smk_ge nf (fun j hj => (hM.1 j (by omega)).1)).2
      have hmw := hM.1 (Int.toNat who) (by omega)
      have hbo := be_ar hn hmw (show 1 ≤ S by omega) (hms _ (by omega))
      have hS2 := hM.nf8 hnf
      have hS3 := hM.2.2
      refine wp_go rfl rfl ?_
      refine wp_go rfl rfl ?_
      refine wp_go rfl rfl ?_
      refine e_get rfl H23 rfl rfl ?_
      refine wp_go rfl rfl ?_
      refine e_ald rfl H27 rfl (by omega) ?_
      refine wp_go rfl rfl ?_
      refine e_lmul rfl (by omega) ?_
      refine e_lst (L' := [xR 23, xI n, xI who, xI S, xL (n * (mk (Int.toNat who))), none, none, none, none, none, none, none, none, none]) rfl rfl rfl ?_
      obtain ⟨ow, how⟩ : ∃ z : Int, z = (n * (mk (Int.toNat who))) := ⟨_, rfl⟩
      rw [← how]
      rw [← how] at hbo
      refine wp_go rfl rfl ?_
      refine wp_go rfl rfl ?_
      refine e_lst (L' := [xR 23, xI n, xI who, xI S, xL ow, none, xL n, none, none, none, none, none, none, none]) rfl rfl rfl ?_
      refine wp_go rfl rfl ?_
      refine e_ist (L' := [xR 23, xI n, xI who, xI S, xL ow, none, xL n, none, xI 0, none, none, none, none, none]) rfl rfl rfl ?_
      refine wp_go rfl rfl ?_
      refine e_ist (L' := [xR 23, xI n, xI who, xI S, xL ow, none, xL n, none, xI 0, xI 0, none, none, none, none]) rfl rfl rfl ?_
      refine l_be H23 H27 hnf hM.1 hms hn (by omega) (by omega) how hbo ?_ (nf + 1) 0 _ _ _ _ _ rfl (by omega) (by omega) rfl rfl
      have := kt (by omega)
      rw [← hSS, ← how] at this
      exact this
    · skip
      refine wp_go rfl rfl ?_
      refine wp_go rfl rfl ?_
      refine wp_ret rfl rfl ?_
      exact kf (by omega)
