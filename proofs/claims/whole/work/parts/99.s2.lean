/-! the class: what it answers, second part -/
set_option maxRecDepth 100000 in
theorem p_owes {d : Nat} {h : hc_H} {Q : List hc_V → hc_H → Prop} {u v x : Int} {e : dX} {tp : Int} {cs : cT} (hs : cOK cs) (he : e.1 ≤ 20) (H22 : h.2.2 22 = cco tp) (H : TH h cs) (H32 : h.2.2 32 = dbt (e.1 : Int)) (H33 : h.2.2 33 = ar 20 e.2.1) (H34 : h.2.2 34 = ar 20 e.2.2.1) (H35 : h.2.2 35 = ar 20 e.2.2.2.1) (kf : (¬ (0 ≤ u ∧ u < (cs.nf : Int)) ∨ ¬ (0 ≤ v ∧ v < (cs.nf : Int)) ∨ u = v ∨ x < 0 ∨ 720720 < x ∨ (x ≠ 0 ∧ e.1 = 20)) → Q [xI (-1)] h) (kc : (0 ≤ u ∧ u < (cs.nf : Int)) → (0 ≤ v ∧ v < (cs.nf : Int)) → u ≠ v → x = 0 → ∀ h2, h2.2.2 32 = dbt 0 → Fr [32] h h2 → Q [xI 0] h2) (kt : (0 ≤ u ∧ u < (cs.nf : Int)) → (0 ≤ v ∧ v < (cs.nf : Int)) → u ≠ v → (0 < x ∧ x ≤ 720720) → e.1 < 20 → ∀ h2, h2.2.2 32 = dbt ((e.1 : Int) + 1) → h2.2.2 33 = ar 20 (hc_u e.2.1 e.1 u) → h2.2.2 34 = ar 20 (hc_u e.2.2.1 e.1 v) → h2.2.2 35 = ar 20 (hc_u e.2.2.2.1 e.1 x) → Fr [32, 33, 34, 35] h h2 → Q [xI ((e.1 : Int) + 1)] h2) : hc_wp (d + 1) mX9_owes 0 [xR 22, xI u, xI v, xI x] [] h Q := by
  have hn8 := hs.1
  refine wp_go rfl rfl ?_
  refine e_get rfl H22 rfl rfl ?_
  refine wp_go rfl rfl ?_
  refine wp_cv rfl rfl rfl H.1 rfl rfl rfl ?_
  refine c_isFolk H.1 (fun q5 => ?_) (fun q5 => ?_)
  · skip
    refine wp_go rfl rfl ?_
    refine wp_go rfl rfl ?_
    refine e_get rfl H22 rfl rfl ?_
    refine wp_go rfl rfl ?_
    refine wp_cv rfl rfl rfl H.1 rfl rfl rfl ?_
    refine c_isFolk H.1 (fun q16 => ?_) (fun q16 => ?_)
    · skip
      refine wp_go rfl rfl ?_
      refine wp_go rfl rfl ?_
      refine wp_go rfl rfl ?_
      refine e_ceq rfl (fun c24 => ?_) (fun c24 => ?_)
      · skip
        refine wp_go rfl rfl ?_
        refine wp_ret rfl rfl ?_
        exact kf (by omega)
      · skip
        refine wp_go rfl rfl ?_
        refine wp_go rfl rfl ?_
        refine e_ldc 720720 rfl rfl ?_
        refine wp_call rfl rfl rfl rfl ?_
        refine c_isWithin  (fun q31 => ?_) (fun q31 => ?_)
        · skip
          refine wp_go rfl rfl ?_
          refine wp_go rfl rfl ?_
          refine e_ifne rfl (fun c40 => ?_) (fun c40 => ?_)
          · skip
            refine wp_go rfl rfl ?_
            refine e_get rfl H22 rfl rfl ?_
            refine e_get rfl H.1 rfl rfl ?_
            refine wp_go rfl rfl ?_
            refine wp_go rfl rfl ?_
            refine wp_go rfl rfl ?_
            refine wp_cv rfl rfl rfl H32 rfl rfl rfl ?_
            refine c_dadd H32 H33 H34 H35 (by omega) (fun q66 => ?_) (fun q66 => ?_)
            · skip
              refine wp_ret rfl rfl ?_
              exact kf (by omega)
            · skip
              refine wp_ret rfl rfl ?_
              have hz : Int.toNat (e.1 : Int) = e.1 := Int.toNat_natCast _
              rw [hz]
              exact kt (by omega) (by omega) (by omega) (by omega) (by omega) _ rfl rfl rfl rfl ((((Fr.rf.wr rfl).wr rfl).wr rfl).wr rfl)
          · skip
            refine wp_go rfl rfl ?_
            refine e_get rfl H22 rfl rfl ?_
            refine e_get rfl H.1 rfl rfl ?_
            refine wp_cv rfl rfl rfl H32 rfl rfl rfl ?_
            refine c_forget H32 ?_
            refine wp_go rfl rfl ?_
            refine wp_ret rfl rfl ?_
            exact kc (by omega) (by omega) (by omega) (by omega) _ rfl (Fr.rf.wr rfl)
        · skip
          refine wp_go rfl rfl ?_
          refine wp_go rfl rfl ?_
          refine wp_ret rfl rfl ?_
          exact kf (by omega)
    · skip
      refine wp_go rfl rfl ?_
      refine wp_go rfl rfl ?_
      refine wp_ret rfl rfl ?_
      exact kf (by omega)
  · skip
    refine wp_go rfl rfl ?_
    refine wp_go rfl rfl ?_
    refine wp_ret rfl rfl ?_
    exact kf (by omega)
set_option maxRecDepth 100000 in
theorem p_netted {d : Nat} {h : hc_H} {Q : List hc_V → hc_H → Prop} {i t pn : Int} {e : dX} {bl0 sm mo py pe am0 : Nat → Int} {tp : Int} {cs : cT} (he : e.1 ≤ 20) (ham : ∀ j, j < e.1 → 0 ≤ e.2.2.2.1 j ∧ e.2.2.2.1 j ≤ 720720) (H22 : h.2.2 22 = cco tp) (H : TH h cs) (H32 : h.2.2 32 = dbt (e.1 : Int)) (H33 : h.2.2 33 = ar 20 e.2.1) (H34 : h.2.2 34 = ar 20 e.2.2.1) (H35 : h.2.2 35 = ar 20 e.2.2.2.1) (H58 : h.2.2 58 = net pn) (H59 : h.2.2 59 = ar 8 bl0) (H60 : h.2.2 60 = ar 256 sm) (H61 : h.2.2 61 = ar 256 mo) (H62 : h.2.2 62 = ar 8 py) (H63 : h.2.2 63 = ar 8 pe) (H64 : h.2.2 64 = ar 8 am0) (k : ∀ h2, NH h2 (nlp (cit (cc 8 (BLE e cs.nf) bl0) sm mo (opm (BLE e cs.nf) 8)).1 (cit (cc 8 (BLE e cs.nf) bl0) sm mo (opm (BLE e cs.nf) 8)).2 (cc 8 (BLE e cs.nf) bl0) 8 (opm (BLE e cs.nf) 8) (0, py, pe, am0)) → Fr [58, 59, 60, 61, 62, 63, 64] h h2 → Q [xI (ntA (nlp (cit (cc 8 (BLE e cs.nf) bl0) sm mo (opm (BLE e cs.nf) 8)).1 (cit (cc 8 (BLE e cs.nf) bl0) sm mo (opm (BLE e cs.nf) 8)).2 (cc 8 (BLE e cs.nf) bl0) 8 (opm (BLE e cs.nf) 8) (0, py, pe, am0)) i t)] h2) : hc_wp (d + 4) mX9_netted 0 [xR 22, xI i, xI t] [] h Q := by
  refine wp_go rfl rfl ?_
  refine e_get rfl H22 rfl rfl ?_
  refine wp_go rfl rfl ?_
  refine e_get rfl H22 rfl rfl ?_
  refine e_get rfl H.1 rfl rfl ?_
  refine wp_go rfl rfl ?_
  refine e_get rfl H22 rfl rfl ?_
  refine e_get rfl H.1 rfl rfl ?_
  refine wp_cv rfl rfl rfl H58 rfl rfl rfl ?_
  refine c_nwork (d := d) (nf := cs.nf) (cn := e.1) he ham H58 H59 H60 H61 H62 H63 H64 H32 H33 H34 H35 (fun h2 n1 n2 F2 => ?_)
  obtain ⟨N, hN⟩ : ∃ z, (nlp (cit (cc 8 (BLE e cs.nf) bl0) sm mo (opm (BLE e cs.nf) 8)).1 (cit (cc 8 (BLE e cs.nf) bl0) sm mo (opm (BLE e cs.nf) 8)).2 (cc 8 (BLE e cs.nf) bl0) 8 (opm (BLE e cs.nf) 8) (0, py, pe, am0)) = z := ⟨_, rfl⟩
  have N2 : NH h2 N := by rw [← hN]; exact n1
  have b2 : 0 ≤ N.1 ∧ N.1 ≤ 8 := by rw [← hN]; exact n2
  refine wp_go rfl rfl ?_
  refine wp_go rfl rfl ?_
  refine e_cne rfl (fun c23 => ?_) (fun c23 => ?_)
  · skip
    refine wp_go rfl rfl ?_
    refine e_iflt rfl (fun c35 => ?_) (fun c35 => ?_)
    · skip
      refine wp_go rfl rfl ?_
      refine wp_ret rfl rfl ?_
      have hr : (-2 : Int) = ntA N i t := by unfold ntA; rw [if_neg (by omega), if_neg (by omega)]
      rw [hr]
      rw [← hN] at N2 ⊢
      exact k h2 N2 F2
    · skip
      refine wp_go rfl rfl ?_
      refine wp_go rfl rfl ?_
      refine e_get rfl ((F2.2.2 22 rfl).trans H22) rfl rfl ?_
      refine e_get rfl N2.1 rfl rfl ?_
      refine e_cge rfl (fun c46 => ?_) (fun c46 => ?_)
      · skip
        refine wp_go rfl rfl ?_
        refine wp_ret rfl rfl ?_
        have hr : (-2 : Int) = ntA N i t := by unfold ntA; rw [if_neg (by omega), if_neg (by omega)]
        rw [hr]
        rw [← hN] at N2 ⊢
        exact k h2 N2 F2
      · skip
        refine wp_go rfl rfl ?_
        refine wp_go rfl rfl ?_
        refine e_clt rfl (fun c52 => ?_) (fun c52 => ?_)
        · skip
          refine wp_go rfl rfl ?_
          by_cases z59_0 : t = 0
          · subst z59_0
            refine wp_go rfl rfl ?_
            refine wp_go rfl rfl ?_
            refine e_get rfl ((F2.2.2 22 rfl).trans H22) rfl rfl ?_
            refine e_get rfl N2.1 rfl rfl ?_
            refine wp_go rfl rfl ?_
            refine e_aldE (p := Int.toNat i) rfl N2.2.1 rfl ⟨by omega, by omega⟩ ?_
            refine wp_ret rfl rfl ?_
            have hr : (N.2.1 (Int.toNat i)) = ntA N i 0 := by unfold ntA; rw [if_neg (by omega), if_pos (by omega), if_pos rfl]
            rw [hr]
            rw [← hN] at N2 ⊢
            exact k h2 N2 F2
          by_cases z59_1 : t = 1
          · subst z59_1
            refine wp_go rfl rfl ?_
            refine wp_go rfl rfl ?_
            refine e_get rfl ((F2.2.2 22 rfl).trans H22) rfl rfl ?_
            refine e_get rfl N2.1 rfl rfl ?_
            refine wp_go rfl rfl ?_
            refine e_aldE (p := Int.toNat i) rfl N2.2.2.1 rfl ⟨by omega, by omega⟩ ?_
            refine wp_ret rfl rfl ?_
            have hr : (N.2.2.1 (Int.toNat i)) = ntA N i 1 := by unfold ntA; rw [if_neg (by omega), if_pos (by omega), if_neg (by decide), if_pos rfl]
            rw [hr]
            rw [← hN] at N2 ⊢
            exact k h2 N2 F2
          by_cases z59_2 : t = 2
          · subst z59_2
            refine wp_go rfl rfl ?_
            refine wp_go rfl rfl ?_
            refine e_get rfl ((F2.2.2 22 rfl).trans H22) rfl rfl ?_
            refine e_get rfl N2.1 rfl rfl ?_
            refine wp_go rfl rfl ?_
            refine e_aldE (p := Int.toNat i) rfl N2.2.2.2 rfl ⟨by omega, by omega⟩ ?_
            refine wp_ret rfl rfl ?_
            have hr : (N.2.2.2 (Int.toNat i)) = ntA N i 2 := by unfold ntA; rw [if_neg (by omega), if_pos (by omega), if_neg (by decide), if_neg (by decide)]
            rw [hr]
            rw [← hN] at N2 ⊢
            exact k h2 N2 F2
          refine e_tswd [0, 1, 2] rfl (by decide) rfl ?_ ?_
          · simp [z59_0, z59_1, z59_2]
          refine wp_go rfl rfl ?_
          refine wp_ret rfl rfl ?_
          have hr : (-2 : Int) = ntA N i t := by unfold ntA; rw [if_neg (by omega), if_neg (by omega)]
          rw [hr]
          rw [← hN] at N2 ⊢
          exact k h2 N2 F2
        · skip
          refine wp_go rfl rfl ?_
          refine wp_ret rfl rfl ?_
          have hr : (-2 : Int) = ntA N i t := by unfold ntA; rw [if_neg (by omega), if_neg (by omega)]
          rw [hr]
          rw [← hN] at N2 ⊢
          exact k h2 N2 F2
  · skip
    refine wp_go rfl rfl ?_
    refine e_get rfl ((F2.2.2 22 rfl).trans H22) rfl rfl ?_
    refine e_get rfl N2.1 rfl rfl ?_
    refine wp_ret rfl rfl ?_
    have hr : N.1 = ntA N i t := by unfold ntA; rw [if_pos (by omega)]
    rw [hr]
    rw [← hN] at N2 ⊢
    exact k h2 N2 F2
set_option maxRecDepth 100000 in
theorem p_married {d : Nat} {h : hc_H} {Q : List hc_V → hc_H → Prop} {v tg : Int} {lw ls ch pt : Nat → Int} {tp : Int} {cs : cT} (hs : cOK cs) (H22 : h.2.2 22 = cco tp) (H : TH h cs) (H65 : h.2.2 65 = mar tg) (H66 : h.2.2 66 = ar 64 lw) (H67 : h.2.2 67 = ar 256 ls) (H68 : h.2.2 68 = ar 256 ch) (H69 : h.2.2 69 = ar 8 pt) (HL : LB lw) (kx : ¬ (v = -1 ∨ (0 ≤ v ∧ v < (cs.nf : Int))) → Q [xI (-2)] h) (k : (v = -1 ∨ (0 ≤ v ∧ v < (cs.nf : Int))) → ∀ (h2 : hc_H) (lw2 : Nat → Int) (ev : Nat), ev + 1 = 2 ^ cs.nf → LB lw2 → LW lw2 cs.mk cs.nf cs.nf → h2.2.2 65 = mar ((mit lw2 ls ch cs.nf ev).1 ev) → h2.2.2 66 = ar 64 lw2 → h2.2.2 67 = ar 256 (mit lw2 ls ch cs.nf ev).1 → h2.2.2 68 = ar 256 (mit lw2 ls ch cs.nf ev).2 → h2.2.2 69 = ar 8 (pit (mit lw2 ls ch cs.nf ev).2 ev pt cs.nf).2 → Fr [65, 66, 67, 68, 69] h h2 → Q [xI (if v = -1 then (mit lw2 ls ch cs.nf ev).1 ev else (pit (mit lw2 ls ch cs.nf ev).2 ev pt cs.nf).2 (Int.toNat v))] h2) : hc_wp (d + 4) mX9_married 0 [xR 22, xI v] [] h Q := by
  have hn8 := hs.1
  refine wp_go rfl rfl ?_
  refine wp_go rfl rfl ?_
  refine e_ceq rfl (fun c2 => ?_) (fun c2 => ?_)
  · skip
    refine wp_go rfl rfl ?_
    refine e_get rfl H22 rfl rfl ?_
    refine wp_go rfl rfl ?_
    refine e_get rfl H22 rfl rfl ?_
    refine e_get rfl H.1 rfl rfl ?_
    refine wp_go rfl rfl ?_
    refine e_get rfl H22 rfl rfl ?_
    refine e_get rfl H.1 rfl rfl ?_
    refine wp_cv rfl rfl rfl H65 rfl rfl rfl ?_
    refine c_mwork (d := d) (nf := cs.nf) hs.1 hs.2.1 H65 H66 H67 H68 H69 H.2.1 HL (fun h2 lw2 ev w1 w2 w3 w4 w5 w6 w7 w8 F2 => ?_)
    refine wp_go rfl rfl ?_
    refine wp_go rfl rfl ?_
    refine e_cne rfl (fun c42 => ?_) (fun c42 => ?_)
    · skip
      refine wp_go rfl rfl ?_
      refine e_get rfl ((F2.2.2 22 rfl).trans H22) rfl rfl ?_
      refine e_get rfl w4 rfl rfl ?_
      refine wp_go rfl rfl ?_
      refine e_aldE (p := Int.toNat v) rfl w8 rfl ⟨by omega, by omega⟩ ?_
      refine wp_ret rfl rfl ?_
      have e9 := k (by omega) h2 lw2 ev w1 w2 w3 w4 w5 w6 w7 w8 F2
      rw [if_neg (by omega)] at e9
      exact e9
    · skip
      refine wp_go rfl rfl ?_
      refine e_get rfl ((F2.2.2 22 rfl).trans H22) rfl rfl ?_
      refine e_get rfl w4 rfl rfl ?_
      refine wp_go rfl rfl ?_
      refine wp_ret rfl rfl ?_
      have e9 := k (by omega) h2 lw2 ev w1 w2 w3 w4 w5 w6 w7 w8 F2
      rw [if_pos (by omega)] at e9
      exact e9
  · skip
    refine wp_go rfl rfl ?_
    refine e_get rfl H22 rfl rfl ?_
    refine wp_go rfl rfl ?_
    refine wp_cv rfl rfl rfl H.1 rfl rfl rfl ?_
    refine c_isFolk H.1 (fun q10 => ?_) (fun q10 => ?_)
    · skip
      refine wp_go rfl rfl ?_
      refine wp_go rfl rfl ?_
      refine e_get rfl H22 rfl rfl ?_
      refine wp_go rfl rfl ?_
      refine e_get rfl H22 rfl rfl ?_
      refine e_get rfl H.1 rfl rfl ?_
      refine wp_go rfl rfl ?_
      refine e_get rfl H22 rfl rfl ?_
      refine e_get rfl H.1 rfl rfl ?_
      refine wp_cv rfl rfl rfl H65 rfl rfl rfl ?_
      refine c_mwork (d := d) (nf := cs.nf) hs.1 hs.2.1 H65 H66 H67 H68 H69 H.2.1 HL (fun h2 lw2 ev w1 w2 w3 w4 w5 w6 w7 w8 F2 => ?_)
      refine wp_go rfl rfl ?_
      refine wp_go rfl rfl ?_
      refine e_cne rfl (fun c42 => ?_) (fun c42 => ?_)
      · skip
        refine wp_go rfl rfl ?_
        refine e_get rfl ((F2.2.2 22 rfl).trans H22) rfl rfl ?_
        refine e_get rfl w4 rfl rfl ?_
        refine wp_go rfl rfl ?_
        refine e_aldE (p := Int.toNat v) rfl w8 rfl ⟨by omega, by omega⟩ ?_
        refine wp_ret rfl rfl ?_
        have e9 := k (by omega) h2 lw2 ev w1 w2 w3 w4 w5 w6 w7 w8 F2
        rw [if_neg (by omega)] at e9
        exact e9
      · skip
        refine wp_go rfl rfl ?_
        refine e_get rfl ((F2.2.2 22 rfl).trans H22) rfl rfl ?_
        refine e_get rfl w4 rfl rfl ?_
        refine wp_go rfl rfl ?_
        refine wp_ret rfl rfl ?_
        have e9 := k (by omega) h2 lw2 ev w1 w2 w3 w4 w5 w6 w7 w8 F2
        rw [if_pos (by omega)] at e9
        exact e9
    · skip
      refine wp_go rfl rfl ?_
      refine wp_go rfl rfl ?_
      refine wp_ret rfl rfl ?_
      exact kx (by omega)
set_option maxRecDepth 100000 in
theorem p_bell {d : Nat} {h : hc_H} {Q : List hc_V → hc_H → Prop} {n u : Int} {tp : Int} {cs : cT} (hs : cOK cs) (H22 : h.2.2 22 = cco tp) (H : TH h cs) (kf : ¬ ((1 ≤ n ∧ n ≤ 720720) ∧ (0 ≤ u ∧ u < (cs.nf : Int)) ∧ 1 ≤ smk cs.mk cs.nf) → Q [xI (-1)] h) (kt : (1 ≤ n ∧ n ≤ 720720) → (0 ≤ u ∧ u < (cs.nf : Int)) → 1 ≤ smk cs.mk cs.nf → Q [xI (n * cs.mk (Int.toNat u) / smk cs.mk cs.nf + if blr n cs.mk (smk cs.mk cs.nf) u cs.nf < blf n cs.mk (smk cs.mk cs.nf) cs.nf then 1 else 0)] h) : hc_wp (d + 2) mX9_bell 0 [xR 22, xI n, xI u] [] h Q := by
  have hn8 := hs.1
  refine wp_go rfl rfl ?_
  refine wp_go rfl rfl ?_
  refine e_ldc 720720 rfl rfl ?_
  refine wp_call rfl rfl rfl rfl ?_
  refine c_isWithin  (fun q4 => ?_) (fun q4 => ?_)
  · skip
    refine wp_go rfl rfl ?_
    refine wp_go rfl rfl ?_
    refine e_get rfl H22 rfl rfl ?_
    refine wp_go rfl rfl ?_
    refine wp_cv rfl rfl rfl H.1 rfl rfl rfl ?_
    refine c_isFolk H.1 (fun q15 => ?_) (fun q15 => ?_)
    · skip
      refine wp_go rfl rfl ?_
      refine wp_go rfl rfl ?_
      refine e_get rfl H22 rfl rfl ?_
      refine wp_go rfl rfl ?_
      refine wp_go rfl rfl ?_
      refine wp_cv rfl rfl rfl H.1 rfl rfl rfl ?_
      refine c_partOfBell (d := d) H.1 H.2.1 hs.1 hs.2.1 (by omega) (fun qf => ?_) (fun qt => ?_)
      · skip
        refine wp_ret rfl rfl ?_
        exact kf (by omega)
      · skip
        refine wp_ret rfl rfl ?_
        exact kt (by omega) (by omega) (by omega)
    · skip
      refine wp_go rfl rfl ?_
      refine wp_go rfl rfl ?_
      refine wp_ret rfl rfl ?_
      exact kf (by omega)
  · skip
    refine wp_go rfl rfl ?_
    refine wp_go rfl rfl ?_
    refine wp_ret rfl rfl ?_
    exact kf (by omega)
set_option maxRecDepth 100000 in
theorem p_cost0 {d : Nat} {h : hc_H} {Q : List hc_V → hc_H → Prop} {v t n : Int} {tp : Int} {cs : cT} {q : Option Nat} {ft fr : Option ef} {nc : Nat} {rows : Nat → Int} (hs : cOK cs) (htc : 0 ≤ cs.tc ∧ cs.tc ≤ 4) (H22 : h.2.2 22 = cco tp) (H : TH h cs) (hq : rul cs.tx cs.tc t = q) (hT : (-1 ≤ t ∧ t < cs.tc) → TXQ h q ft fr nc rows) (kf : ¬ ((0 ≤ v ∧ v < (cs.nf : Int)) ∧ (-1 ≤ t ∧ t < cs.tc) ∧ (0 ≤ n ∧ n ≤ 60)) → Q [xI (-2)] h) (kt : (0 ≤ v ∧ v < (cs.nf : Int)) → (-1 ≤ t ∧ t < cs.tc) → (0 ≤ n ∧ n ≤ 60) → ∀ h2, WS h2 → Fr [24, 25, 26] h h2 → Q [xI (cs.mk (Int.toNat v) - mbh fr v cs.dy (cs.sl (Int.toNat v)) 0 (cs.mk (Int.toNat v)) (Int.toNat n))] h2) : hc_wp (d + 5) mX9_cost 0 [xR 22, xI v, xI t, xI n, xI 0] [] h Q := by
  have hn8 := hs.1
  refine wp_go rfl rfl ?_
  refine e_get rfl H22 rfl rfl ?_
  refine wp_go rfl rfl ?_
  refine wp_cv rfl rfl rfl H.1 rfl rfl rfl ?_
  refine c_isFolk H.1 (fun q5 => ?_) (fun q5 => ?_)
  · skip
    refine wp_go rfl rfl ?_
    refine wp_go rfl rfl ?_
    refine wp_go rfl rfl ?_
    refine wp_go rfl rfl ?_
    refine wp_call rfl rfl rfl rfl ?_
    refine c_isWithin  (fun q15 => ?_) (fun q15 => ?_)
    · skip
      refine wp_go rfl rfl ?_
      refine wp_go rfl rfl ?_
      refine wp_go rfl rfl ?_
      refine e_ceq rfl (fun c23 => ?_) (fun c23 => ?_)
      · skip
        refine wp_go rfl rfl ?_
        refine e_get rfl H22 rfl rfl ?_
        refine e_get rfl H.1 rfl rfl ?_
        refine wp_go rfl rfl ?_
        refine e_aldE (p := Int.toNat v) rfl H.2.1 rfl ⟨by omega, by omega⟩ ?_
        refine wp_go rfl rfl ?_
        refine e_get rfl H22 rfl rfl ?_
        refine wp_go rfl rfl ?_
        refine wp_go rfl rfl ?_
        refine e_get rfl H22 rfl rfl ?_
        refine wp_go rfl rfl ?_
        refine wp_cv rfl rfl rfl H.1 rfl rfl rfl ?_
        refine c_textAt2 H.1 H.2.2.2.1 hq ?_
        refine wp_go rfl rfl ?_
        refine wp_go rfl rfl ?_
        refine wp_go rfl rfl ?_
        refine wp_go rfl rfl ?_
        refine wp_cv rfl rfl rfl H.1 rfl rfl rfl ?_
        refine c_marksBehind (d := d) (q := q) hs.1 hs.2.1.1 hs.2.2.1 hs.2.2.2.1 (by omega) (by omega) H.tq (hT (by omega)) (fun qb => ?_) (fun qb h2 T2 X2 F2 => ?_)
        · skip
          exact absurd (show 0 ≤ v ∧ v < (cs.nf : Int) by omega) qb
        · skip
          have hmb := mbh_bd (fr := fr) (who := v) (dy := cs.dy) (sl := cs.sl (Int.toNat v)) (wet := 0) (hs.2.1.1 (Int.toNat v) (by omega)).1 (Int.toNat n)
          have hmk9 := hs.2.1.1 (Int.toNat v) (by omega)
          refine e_isub rfl (by omega) ?_
          refine wp_ret rfl rfl ?_
          exact kt (by omega) (by omega) (by omega) h2 T2.2.2.2.2 F2
      · skip
        refine wp_go rfl rfl ?_
        refine e_get rfl H22 rfl rfl ?_
        refine wp_go rfl rfl ?_
        refine wp_cv rfl rfl rfl H.1 rfl rfl rfl ?_
        refine c_isText H.1 (fun q31 => ?_) (fun q31 => ?_)
        · skip
          refine wp_go rfl rfl ?_
          refine wp_go rfl rfl ?_
          refine e_get rfl H22 rfl rfl ?_
          refine e_get rfl H.1 rfl rfl ?_
          refine wp_go rfl rfl ?_
          refine e_aldE (p := Int.toNat v) rfl H.2.1 rfl ⟨by omega, by omega⟩ ?_
          refine wp_go rfl rfl ?_
          refine e_get rfl H22 rfl rfl ?_
          refine wp_go rfl rfl ?_
          refine wp_go rfl rfl ?_
          refine e_get rfl H22 rfl rfl ?_
          refine wp_go rfl rfl ?_
          refine wp_cv rfl rfl rfl H.1 rfl rfl rfl ?_
          refine c_textAt2 H.1 H.2.2.2.1 hq ?_
          refine wp_go rfl rfl ?_
          refine wp_go rfl rfl ?_
          refine wp_go rfl rfl ?_
          refine wp_go rfl rfl ?_
          refine wp_cv rfl rfl rfl H.1 rfl rfl rfl ?_
          refine c_marksBehind (d := d) (q := q) hs.1 hs.2.1.1 hs.2.2.1 hs.2.2.2.1 (by omega) (by omega) H.tq (hT (by omega)) (fun qb => ?_) (fun qb h2 T2 X2 F2 => ?_)
          · skip
            exact absurd (show 0 ≤ v ∧ v < (cs.nf : Int) by omega) qb
          · skip
            have hmb := mbh_bd (fr := fr) (who := v) (dy := cs.dy) (sl := cs.sl (Int.toNat v)) (wet := 0) (hs.2.1.1 (Int.toNat v) (by omega)).1 (Int.toNat n)
            have hmk9 := hs.2.1.1 (Int.toNat v) (by omega)
            refine e_isub rfl (by omega) ?_
            refine wp_ret rfl rfl ?_
            exact kt (by omega) (by omega) (by omega) h2 T2.2.2.2.2 F2
        · skip
          refine wp_go rfl rfl ?_
          refine wp_go rfl rfl ?_
          refine wp_ret rfl rfl ?_
          exact kf (by omega)
    · skip
      refine wp_go rfl rfl ?_
      refine wp_go rfl rfl ?_
      refine wp_ret rfl rfl ?_
      exact kf (by omega)
  · skip
    refine wp_go rfl rfl ?_
    refine wp_go rfl rfl ?_
    refine wp_ret rfl rfl ?_
    exact kf (by omega)
set_option maxRecDepth 100000 in
theorem p_best0 {d : Nat} {h : hc_H} {Q : List hc_V → hc_H → Prop} {n : Int} {ftf frf : Nat → Option ef} {ncf : Nat → Nat} {rwf : Nat → Nat → Int} {tp : Int} {cs : cT} (hs : cOK cs) (htc : 0 ≤ cs.tc ∧ cs.tc ≤ 4) (H22 : h.2.2 22 = cco tp) (H : TH h cs) (HS : TXS h cs.tx cs.tc ftf frf ncf rwf) (kf : ¬ (0 ≤ n ∧ n ≤ 60) → Q [xI (-2)] h) (kt : (0 ≤ n ∧ n ≤ 60) → ∀ h2, WS h2 → Fr [24, 25, 26] h h2 → Q [xI (bst frf cs.mk cs.sl cs.dy 0 (Int.toNat n) cs.nf (Int.toNat cs.tc)).1] h2) : hc_wp (d + 6) mX9_best 0 [xR 22, xI n, xI 0] [] h Q := by
  refine wp_go rfl rfl ?_
  refine wp_go rfl rfl ?_
  refine wp_go rfl rfl ?_
  refine wp_call rfl rfl rfl rfl ?_
  refine c_isWithin  (fun q4 => ?_) (fun q4 => ?_)
  · skip
    refine wp_go rfl rfl ?_
    refine wp_go rfl rfl ?_
    refine e_get rfl H22 rfl rfl ?_
    refine wp_go rfl rfl ?_
    refine wp_go rfl rfl ?_
    refine wp_go rfl rfl ?_
    refine wp_go rfl rfl ?_
    refine wp_cv rfl rfl rfl H.1 rfl rfl rfl ?_
    refine c_bestText (d := d) hs.1 hs.2.1.1 hs.2.2.1 hs.2.2.2.1 (by omega) (by omega) htc H.tq HS (fun h2 T2 X2 F2 => ?_)
    refine wp_ret rfl rfl ?_
    exact kt (by omega) h2 T2.2.2.2.2 F2
  · skip
    refine wp_go rfl rfl ?_
    refine wp_go rfl rfl ?_
    refine wp_ret rfl rfl ?_
    exact kf (by omega)
set_option maxRecDepth 100000 in
theorem p_cost1 {d : Nat} {h : hc_H} {Q : List hc_V → hc_H → Prop} {v t n : Int} {tp : Int} {cs : cT} {q : Option Nat} {ft fr : Option ef} {nc : Nat} {rows : Nat → Int} (hs : cOK cs) (htc : 0 ≤ cs.tc ∧ cs.tc ≤ 4) (H22 : h.2.2 22 = cco tp) (H : TH h cs) (hq : rul cs.tx cs.tc t = q) (hT : (-1 ≤ t ∧ t < cs.tc) → TXQ h q ft fr nc rows) (kf : ¬ ((0 ≤ v ∧ v < (cs.nf : Int)) ∧ (-1 ≤ t ∧ t < cs.tc) ∧ (0 ≤ n ∧ n ≤ 60)) → Q [xI (-2)] h) (kt : (0 ≤ v ∧ v < (cs.nf : Int)) → (-1 ≤ t ∧ t < cs.tc) → (0 ≤ n ∧ n ≤ 60) → ∀ h2, WS h2 → Fr [24, 25, 26] h h2 → Q [xI (cs.mk (Int.toNat v) - mbh fr v cs.dy (cs.sl (Int.toNat v)) 1 (cs.mk (Int.toNat v)) (Int.toNat n))] h2) : hc_wp (d + 5) mX9_cost 0 [xR 22, xI v, xI t, xI n, xI 1] [] h Q := by
  have hn8 := hs.1
  refine wp_go rfl rfl ?_
  refine e_get rfl H22 rfl rfl ?_
  refine wp_go rfl rfl ?_
  refine wp_cv rfl rfl rfl H.1 rfl rfl rfl ?_
  refine c_isFolk H.1 (fun q5 => ?_) (fun q5 => ?_)
  · skip
    refine wp_go rfl rfl ?_
    refine wp_go rfl rfl ?_
    refine wp_go rfl rfl ?_
    refine wp_go rfl rfl ?_
    refine wp_call rfl rfl rfl rfl ?_
    refine c_isWithin  (fun q15 => ?_) (fun q15 => ?_)
    · skip
      refine wp_go rfl rfl ?_
      refine wp_go rfl rfl ?_
      refine wp_go rfl rfl ?_
      refine e_ceq rfl (fun c23 => ?_) (fun c23 => ?_)
      · skip
        refine wp_go rfl rfl ?_
        refine e_get rfl H22 rfl rfl ?_
        refine e_get rfl H.1 rfl rfl ?_
        refine wp_go rfl rfl ?_
        refine e_aldE (p := Int.toNat v) rfl H.2.1 rfl ⟨by omega, by omega⟩ ?_
        refine wp_go rfl rfl ?_
        refine e_get rfl H22 rfl rfl ?_
        refine wp_go rfl rfl ?_
        refine wp_go rfl rfl ?_
        refine e_get rfl H22 rfl rfl ?_
        refine wp_go rfl rfl ?_
        refine wp_cv rfl rfl rfl H.1 rfl rfl rfl ?_
        refine c_textAt2 H.1 H.2.2.2.1 hq ?_
        refine wp_go rfl rfl ?_
        refine wp_go rfl rfl ?_
        refine wp_go rfl rfl ?_
        refine wp_go rfl rfl ?_
        refine wp_go rfl rfl ?_
        refine wp_cv rfl rfl rfl H.1 rfl rfl rfl ?_
        refine c_marksBehind (d := d) (q := q) hs.1 hs.2.1.1 hs.2.2.1 hs.2.2.2.1 (by omega) (by omega) H.tq (hT (by omega)) (fun qb => ?_) (fun qb h2 T2 X2 F2 => ?_)
        · skip
          exact absurd (show 0 ≤ v ∧ v < (cs.nf : Int) by omega) qb
        · skip
          have hmb := mbh_bd (fr := fr) (who := v) (dy := cs.dy) (sl := cs.sl (Int.toNat v)) (wet := 1) (hs.2.1.1 (Int.toNat v) (by omega)).1 (Int.toNat n)
          have hmk9 := hs.2.1.1 (Int.toNat v) (by omega)
          refine e_isub rfl (by omega) ?_
          refine wp_ret rfl rfl ?_
          exact kt (by omega) (by omega) (by omega) h2 T2.2.2.2.2 F2
      · skip
        refine wp_go rfl rfl ?_
        refine e_get rfl H22 rfl rfl ?_
        refine wp_go rfl rfl ?_
        refine wp_cv rfl rfl rfl H.1 rfl rfl rfl ?_
        refine c_isText H.1 (fun q31 => ?_) (fun q31 => ?_)
        · skip
          refine wp_go rfl rfl ?_
          refine wp_go rfl rfl ?_
          refine e_get rfl H22 rfl rfl ?_
          refine e_get rfl H.1 rfl rfl ?_
          refine wp_go rfl rfl ?_
          refine e_aldE (p := Int.toNat v) rfl H.2.1 rfl ⟨by omega, by omega⟩ ?_
          refine wp_go rfl rfl ?_
          refine e_get rfl H22 rfl rfl ?_
          refine wp_go rfl rfl ?_
          refine wp_go rfl rfl ?_
          refine e_get rfl H22 rfl rfl ?_
          refine wp_go rfl rfl ?_
          refine wp_cv rfl rfl rfl H.1 rfl rfl rfl ?_
          refine c_textAt2 H.1 H.2.2.2.1 hq ?_
          refine wp_go rfl rfl ?_
          refine wp_go rfl rfl ?_
          refine wp_go rfl rfl ?_
          refine wp_go rfl rfl ?_
          refine wp_go rfl rfl ?_
          refine wp_cv rfl rfl rfl H.1 rfl rfl rfl ?_
          refine c_marksBehind (d := d) (q := q) hs.1 hs.2.1.1 hs.2.2.1 hs.2.2.2.1 (by omega) (by omega) H.tq (hT (by omega)) (fun qb => ?_) (fun qb h2 T2 X2 F2 => ?_)
          · skip
            exact absurd (show 0 ≤ v ∧ v < (cs.nf : Int) by omega) qb
          · skip
            have hmb := mbh_bd (fr := fr) (who := v) (dy := cs.dy) (sl := cs.sl (Int.toNat v)) (wet := 1) (hs.2.1.1 (Int.toNat v) (by omega)).1 (Int.toNat n)
            have hmk9 := hs.2.1.1 (Int.toNat v) (by omega)
            refine e_isub rfl (by omega) ?_
            refine wp_ret rfl rfl ?_
            exact kt (by omega) (by omega) (by omega) h2 T2.2.2.2.2 F2
        · skip
          refine wp_go rfl rfl ?_
          refine wp_go rfl rfl ?_
          refine wp_ret rfl rfl ?_
          exact kf (by omega)
    · skip
      refine wp_go rfl rfl ?_
      refine wp_go rfl rfl ?_
      refine wp_ret rfl rfl ?_
      exact kf (by omega)
  · skip
    refine wp_go rfl rfl ?_
    refine wp_go rfl rfl ?_
    refine wp_ret rfl rfl ?_
    exact kf (by omega)
set_option maxRecDepth 100000 in
theorem p_best1 {d : Nat} {h : hc_H} {Q : List hc_V → hc_H → Prop} {n : Int} {ftf frf : Nat → Option ef} {ncf : Nat → Nat} {rwf : Nat → Nat → Int} {tp : Int} {cs : cT} (hs : cOK cs) (htc : 0 ≤ cs.tc ∧ cs.tc ≤ 4) (H22 : h.2.2 22 = cco tp) (H : TH h cs) (HS : TXS h cs.tx cs.tc ftf frf ncf rwf) (kf : ¬ (0 ≤ n ∧ n ≤ 60) → Q [xI (-2)] h) (kt : (0 ≤ n ∧ n ≤ 60) → ∀ h2, WS h2 → Fr [24, 25, 26] h h2 → Q [xI (bst frf cs.mk cs.sl cs.dy 1 (Int.toNat n) cs.nf (Int.toNat cs.tc)).1] h2) : hc_wp (d + 6) mX9_best 0 [xR 22, xI n, xI 1] [] h Q := by
  refine wp_go rfl rfl ?_
  refine wp_go rfl rfl ?_
  refine wp_go rfl rfl ?_
  refine wp_call rfl rfl rfl rfl ?_
  refine c_isWithin  (fun q4 => ?_) (fun q4 => ?_)
  · skip
    refine wp_go rfl rfl ?_
    refine wp_go rfl rfl ?_
    refine e_get rfl H22 rfl rfl ?_
    refine wp_go rfl rfl ?_
    refine wp_go rfl rfl ?_
    refine wp_go rfl rfl ?_
    refine wp_go rfl rfl ?_
    refine wp_go rfl rfl ?_
    refine wp_cv rfl rfl rfl H.1 rfl rfl rfl ?_
    refine c_bestText (d := d) hs.1 hs.2.1.1 hs.2.2.1 hs.2.2.2.1 (by omega) (by omega) htc H.tq HS (fun h2 T2 X2 F2 => ?_)
    refine wp_ret rfl rfl ?_
    exact kt (by omega) h2 T2.2.2.2.2 F2
  · skip
    refine wp_go rfl rfl ?_
    refine wp_go rfl rfl ?_
    refine wp_ret rfl rfl ?_
    exact kf (by omega)
set_option maxRecDepth 100000 in
theorem p_seen {d : Nat} {h : hc_H} {Q : List hc_V → hc_H → Prop} {c : Nat} {v : Int} {e : dX} {tp : Int} {cs : cT} (hc : cs.sc = (c : Int)) (hc8 : c ≤ 8) (H22 : h.2.2 22 = cco tp) (H : TH h cs) (H36 : h.2.2 36 = ar 8 e.2.2.2.2) (kc : v = -1 → ∀ h2, TH h2 (scS cs 0) → Fr [23] h h2 → Q [xI 0] h2) (kf : v ≠ -1 → (v < 0 ∨ 720720 < v ∨ c = 8) → Q [xI (-2)] h) (kt : 0 ≤ v ∧ v ≤ 720720 → c < 8 → ∀ h2, TH h2 (scS cs ((c : Int) + 1)) → h2.2.2 36 = ar 8 (hc_u e.2.2.2.2 c v) → Fr [23, 36] h h2 → Q [xI ((c : Int) + 1)] h2) : hc_wp (d + 1) mX9_seen 0 [xR 22, xI v] [] h Q := by
  have H23c : h.2.2 23 = .inr (7, [xR 24, xI (cs.nf : Int), xR 27, xR 28, xI cs.dy, xI cs.rn, xI cs.x, xI cs.wt, xR 29, xI cs.tc, xI cs.ru, xR 30, xR 32, xR 36, xI (c : Int)]) := by rw [← hc]; exact H.1
  refine wp_go rfl rfl ?_
  refine wp_go rfl rfl ?_
  refine e_cne rfl (fun c2 => ?_) (fun c2 => ?_)
  · skip
    refine wp_go rfl rfl ?_
    refine wp_go rfl rfl ?_
    refine e_ldc 720720 rfl rfl ?_
    refine wp_call rfl rfl rfl rfl ?_
    refine c_isWithin  (fun q19 => ?_) (fun q19 => ?_)
    · skip
      refine wp_go rfl rfl ?_
      refine wp_go rfl rfl ?_
      refine e_get rfl H22 rfl rfl ?_
      refine e_get rfl H23c rfl rfl ?_
      refine wp_go rfl rfl ?_
      refine wp_go rfl rfl ?_
      refine wp_call rfl rfl rfl rfl ?_
      refine c_isWithin  (fun q35 => ?_) (fun q35 => ?_)
      · skip
        refine wp_go rfl rfl ?_
        refine wp_go rfl rfl ?_
        refine e_get rfl H22 rfl rfl ?_
        refine e_get rfl H23c rfl rfl ?_
        refine wp_go rfl rfl ?_
        refine e_get rfl H22 rfl rfl ?_
        refine e_get rfl H23c rfl rfl ?_
        refine wp_go rfl rfl ?_
        refine e_iastE (p := c) rfl H36 ⟨by omega, by omega⟩ ?_
        refine wp_go rfl rfl ?_
        refine e_get rfl H22 rfl rfl ?_
        refine wp_go rfl rfl ?_
        refine e_get rfl H23c rfl rfl ?_
        refine wp_go rfl rfl ?_
        refine e_iadd rfl (by omega) ?_
        refine e_put (fs' := [xR 24, xI (cs.nf : Int), xR 27, xR 28, xI cs.dy, xI cs.rn, xI cs.x, xI cs.wt, xR 29, xI cs.tc, xI cs.ru, xR 30, xR 32, xR 36, xI ((c : Int) + 1)]) rfl H23c rfl rfl ?_
        refine wp_go rfl rfl ?_
        refine e_get rfl H22 rfl rfl ?_
        refine e_get rfl rfl rfl rfl ?_
        refine wp_ret rfl rfl ?_
        exact kt (by omega) (by omega) _ ⟨rfl, H.2.1, H.2.2.1, H.2.2.2.1, H.2.2.2.2.1, H.2.2.2.2.2.1, H.2.2.2.2.2.2⟩ rfl ((Fr.rf.wr rfl).wr rfl)
      · skip
        refine wp_go rfl rfl ?_
        refine wp_go rfl rfl ?_
        refine wp_ret rfl rfl ?_
        exact kf (by omega) (by omega)
    · skip
      refine wp_go rfl rfl ?_
      refine wp_go rfl rfl ?_
      refine wp_ret rfl rfl ?_
      exact kf (by omega) (by omega)
  · skip
    refine wp_go rfl rfl ?_
    refine e_get rfl H22 rfl rfl ?_
    refine wp_go rfl rfl ?_
    refine e_put (fs' := [xR 24, xI (cs.nf : Int), xR 27, xR 28, xI cs.dy, xI cs.rn, xI cs.x, xI cs.wt, xR 29, xI cs.tc, xI cs.ru, xR 30, xR 32, xR 36, xI 0]) rfl H23c rfl rfl ?_
    refine wp_go rfl rfl ?_
    refine wp_ret rfl rfl ?_
    exact kc (by omega) _ ⟨rfl, H.2.1, H.2.2.1, H.2.2.2.1, H.2.2.2.2.1, H.2.2.2.2.2.1, H.2.2.2.2.2.2⟩ (Fr.rf.wr rfl)
set_option maxRecDepth 100000 in
theorem p_rubbed {d : Nat} {h : hc_H} {Q : List hc_V → hc_H → Prop} {u k0 : Int} {e : dX} {tp : Int} {cs : cT} {q : Option Nat} {ft fr : Option ef} {nc : Nat} {rows : Nat → Int} (hs : cOK cs) (hsn : SN e.2.2.2.2) (hsc : 0 ≤ cs.sc ∧ cs.sc ≤ 8) (H22 : h.2.2 22 = cco tp) (H : TH h cs) (H36 : h.2.2 36 = ar 8 e.2.2.2.2) (hq : rul cs.tx cs.tc cs.ru = q) (HT : TXQ h q ft fr nc rows) (kf : ¬ ((0 ≤ u ∧ u < (cs.nf : Int)) ∧ -1 ≤ k0) → Q [xI (-1)] h) (kt : (0 ≤ u ∧ u < (cs.nf : Int)) → -1 ≤ k0 → ∀ h2, WS h2 → Fr [24, 25, 26] h h2 → Q [xI (wsr (fit (fdm fr (cs.mk (Int.toNat u)) e.2.2.2.2 u cs.dy (cs.sl (Int.toNat u)) 0 (Int.toNat cs.sc)) (fdm fr (cs.mk (Int.toNat u)) e.2.2.2.2 u cs.dy (cs.sl (Int.toNat u)) 1 (Int.toNat cs.sc)) (2 ^ Int.toNat cs.sc)) k0 (2 ^ Int.toNat cs.sc) 0 0)] h2) : hc_wp (d + 6) mX9_rubbed 0 [xR 22, xI u, xI k0] [] h Q := by
  have hn8 := hs.1
  refine wp_go rfl rfl ?_
  refine e_get rfl H22 rfl rfl ?_
  refine wp_go rfl rfl ?_
  refine wp_cv rfl rfl rfl H.1 rfl rfl rfl ?_
  refine c_isFolk H.1 (fun q5 => ?_) (fun q5 => ?_)
  · skip
    refine wp_go rfl rfl ?_
    refine wp_go rfl rfl ?_
    refine wp_go rfl rfl ?_
    refine e_cge rfl (fun c13 => ?_) (fun c13 => ?_)
    · skip
      refine wp_go rfl rfl ?_
      refine e_get rfl H22 rfl rfl ?_
      refine wp_go rfl rfl ?_
      refine wp_go rfl rfl ?_
      refine wp_cv rfl rfl rfl H.1 rfl rfl rfl ?_
      refine c_weathers (d := d) hs.1 hs.2.1.1 hs.2.2.1 hsn hs.2.2.2.1 hsc (by omega) H.tq H36 hq HT (fun h2 T2 S2 X2 F2 => ?_)
      refine wp_ret rfl rfl ?_
      exact kt (by omega) (by omega) h2 T2.2.2.2.2 F2
    · skip
      refine wp_go rfl rfl ?_
      refine wp_ret rfl rfl ?_
      exact kf (by omega)
  · skip
    refine wp_go rfl rfl ?_
    refine wp_go rfl rfl ?_
    refine wp_ret rfl rfl ?_
    exact kf (by omega)
def abv (cs : cT) (e : dX) (i : Nat) : Int := match i with
  | 0 => (cs.nf : Int)
  | 1 => cs.dy
  | 2 => cs.rn
  | 3 => cs.x
  | 4 => cs.wt
  | 5 => cs.tc
  | 6 => cs.ru
  | 7 => cs.ct
  | 8 => (e.1 : Int)
  | 9 => cs.sc
  | _ => 0
set_option maxRecDepth 100000 in
theorem p_aboutAll {d : Nat} {h : hc_H} {Q : List hc_V → hc_H → Prop} {n : Nat} {v : Int} {e : dX} {cs : cT} (H22 : h.2.2 22 = cco (n : Int)) (H : TH h cs) (H32 : h.2.2 32 = dbt (e.1 : Int)) (k0 : ∀ i : Nat, i < 10 → v = (i : Int) → Q [xI (abv cs e i)] h) (k10 : v = 10 → Q [xI (n : Int)] h) (kx : ¬ (0 ≤ v ∧ v ≤ 10) → Q [xI (-2)] h) : hc_wp (d + 1) mX9_aboutAll 0 [xR 22, xI v] [] h Q := by
  refine wp_go rfl rfl ?_
  by_cases z1_0 : v = 0
  · subst z1_0
    refine wp_go rfl rfl ?_
    refine wp_go rfl rfl ?_
    refine e_get rfl H22 rfl rfl ?_
    refine e_get rfl H.1 rfl rfl ?_
    refine wp_ret rfl rfl ?_
    exact k0 0 (by omega) rfl
  by_cases z1_1 : v = 1
  · subst z1_1
    refine wp_go rfl rfl ?_
    refine wp_go rfl rfl ?_
    refine e_get rfl H22 rfl rfl ?_
    refine e_get rfl H.1 rfl rfl ?_
    refine wp_ret rfl rfl ?_
    exact k0 1 (by omega) rfl
  by_cases z1_2 : v = 2
  · subst z1_2
    refine wp_go rfl rfl ?_
    refine wp_go rfl rfl ?_
    refine e_get rfl H22 rfl rfl ?_
    refine e_get rfl H.1 rfl rfl ?_
    refine wp_ret rfl rfl ?_
    exact k0 2 (by omega) rfl
  by_cases z1_3 : v = 3
  · subst z1_3
    refine wp_go rfl rfl ?_
    refine wp_go rfl rfl ?_
    refine e_get rfl H22 rfl rfl ?_
    refine e_get rfl H.1 rfl rfl ?_
    refine wp_ret rfl rfl ?_
    exact k0 3 (by omega) rfl
  by_cases z1_4 : v = 4
  · subst z1_4
    refine wp_go rfl rfl ?_
    refine wp_go rfl rfl ?_
    refine e_get rfl H22 rfl rfl ?_
    refine e_get rfl H.1 rfl rfl ?_
    refine wp_ret rfl rfl ?_
    exact k0 4 (by omega) rfl
  by_cases z1_5 : v = 5
  · subst z1_5
    refine wp_go rfl rfl ?_
    refine wp_go rfl rfl ?_
    refine e_get rfl H22 rfl rfl ?_
    refine e_get rfl H.1 rfl rfl ?_
    refine wp_ret rfl rfl ?_
    exact k0 5 (by omega) rfl
  by_cases z1_6 : v = 6
  · subst z1_6
    refine wp_go rfl rfl ?_
    refine wp_go rfl rfl ?_
    refine e_get rfl H22 rfl rfl ?_
    refine e_get rfl H.1 rfl rfl ?_
    refine wp_ret rfl rfl ?_
    exact k0 6 (by omega) rfl
  by_cases z1_7 : v = 7
  · subst z1_7
    refine wp_go rfl rfl ?_
    refine wp_go rfl rfl ?_
    refine e_get rfl H22 rfl rfl ?_
    refine e_get rfl H.1 rfl rfl ?_
    refine e_get rfl H.2.2.2.2.1 rfl rfl ?_
    refine wp_ret rfl rfl ?_
    exact k0 7 (by omega) rfl
  by_cases z1_8 : v = 8
  · subst z1_8
    refine wp_go rfl rfl ?_
    refine wp_go rfl rfl ?_
    refine e_get rfl H22 rfl rfl ?_
    refine e_get rfl H.1 rfl rfl ?_
    refine e_get rfl H32 rfl rfl ?_
    refine wp_ret rfl rfl ?_
    exact k0 8 (by omega) rfl
  by_cases z1_9 : v = 9
  · subst z1_9
    refine wp_go rfl rfl ?_
    refine wp_go rfl rfl ?_
    refine e_get rfl H22 rfl rfl ?_
    refine e_get rfl H.1 rfl rfl ?_
    refine wp_ret rfl rfl ?_
    exact k0 9 (by omega) rfl
  by_cases z1_10 : v = 10
  · subst z1_10
    refine wp_go rfl rfl ?_
    refine wp_go rfl rfl ?_
    refine e_get rfl H22 rfl rfl ?_
    refine wp_ret rfl rfl ?_
    exact k10 rfl
  refine e_tswd [0, 1, 2, 3, 4, 5, 6, 7, 8, 9, 10] rfl (by decide) rfl ?_ ?_
  · simp [z1_0, z1_1, z1_2, z1_3, z1_4, z1_5, z1_6, z1_7, z1_8, z1_9, z1_10]
  refine wp_go rfl rfl ?_
  refine wp_ret rfl rfl ?_
  exact kx (by omega)
set_option maxRecDepth 100000 in
theorem p_about {d : Nat} {h : hc_H} {Q : List hc_V → hc_H → Prop} {n : Nat} {v : Int} {e : dX} {cs : cT} (hv32 : -2147483648 ≤ v ∧ v ≤ 2147483647) (hs : cOK cs) (he : e.1 ≤ 20) (ham : ∀ j, j < e.1 → 0 ≤ e.2.2.2.1 j ∧ e.2.2.2.1 j ≤ 720720) (H22 : h.2.2 22 = cco (n : Int)) (H : TH h cs) (H32 : h.2.2 32 = dbt (e.1 : Int)) (H33 : h.2.2 33 = ar 20 e.2.1) (H34 : h.2.2 34 = ar 20 e.2.2.1) (H35 : h.2.2 35 = ar 20 e.2.2.2.1) (k20 : 20 ≤ v ∧ v < 20 + (cs.nf : Int) → Q [xI (cs.sl (Int.toNat (v - 20)))] h) (k30 : 30 ≤ v ∧ v < 30 + (cs.nf : Int) → Q [xI (bal e.2.1 e.2.2.1 e.2.2.2.1 (v - 30) e.1 + 20000000)] h) (k0 : ∀ i : Nat, i < 10 → v = (i : Int) → Q [xI (abv cs e i)] h) (k10 : v = 10 → Q [xI (n : Int)] h) (kx : ¬ (20 ≤ v ∧ v < 20 + (cs.nf : Int)) → ¬ (30 ≤ v ∧ v < 30 + (cs.nf : Int)) → ¬ (0 ≤ v ∧ v ≤ 9) → v ≠ 10 → Q [xI (-2)] h) : hc_wp (d + 2) mX9_about 0 [xR 22, xI v, none] [] h Q := by
  have hn8 := hs.1
  refine wp_go rfl rfl ?_
  refine wp_go rfl rfl ?_
  refine e_clt rfl (fun c3 => ?_) (fun c3 => ?_)
  · skip
    refine wp_go rfl rfl ?_
    refine wp_go rfl rfl ?_
    refine e_clt rfl (fun c45 => ?_) (fun c45 => ?_)
    · skip
      refine wp_go rfl rfl ?_
      refine wp_go rfl rfl ?_
      refine wp_cv rfl rfl rfl H22 rfl rfl rfl ?_
      refine p_aboutAll (d := d) (n := n) H22 H H32 (fun i hi q9 => ?_) (fun q9 => ?_) (fun q9 => ?_)
      · skip
        refine wp_ret rfl rfl ?_
        exact k0 i hi q9
      · skip
        refine wp_ret rfl rfl ?_
        exact k10 q9
      · skip
        refine wp_ret rfl rfl ?_
        exact kx (by omega) (by omega) (by omega) (by omega)
    · skip
      refine wp_go rfl rfl ?_
      refine wp_go rfl rfl ?_
      refine e_isub rfl (by omega) ?_
      refine e_istn (L' := [xR 22, xI v, xI (v - 20)]) rfl rfl rfl ?_
      refine wp_go rfl rfl ?_
      refine e_get rfl H22 rfl rfl ?_
      refine wp_go rfl rfl ?_
      refine wp_cv rfl rfl rfl H.1 rfl rfl rfl ?_
      refine c_isFolk H.1 (fun q58 => ?_) (fun q58 => ?_)
      · skip
        refine wp_go rfl rfl ?_
        refine wp_go rfl rfl ?_
        refine e_get rfl H22 rfl rfl ?_
        refine e_get rfl H.1 rfl rfl ?_
        refine wp_go rfl rfl ?_
        refine e_aldE (p := Int.toNat (v - 20)) rfl H.2.2.1 rfl ⟨by omega, by omega⟩ ?_
        refine wp_go rfl rfl ?_
        refine wp_ret rfl rfl ?_
        exact k20 (by omega)
      · skip
        refine wp_go rfl rfl ?_
        refine wp_go rfl rfl ?_
        refine wp_ret rfl rfl ?_
        exact kx (by omega) (by omega) (by omega) (by omega)
  · skip
    refine wp_go rfl rfl ?_
    refine wp_go rfl rfl ?_
    refine e_isub rfl (by omega) ?_
    refine e_istn (L' := [xR 22, xI v, xI (v - 30)]) rfl rfl rfl ?_
    refine wp_go rfl rfl ?_
    refine e_get rfl H22 rfl rfl ?_
    refine wp_go rfl rfl ?_
    refine wp_cv rfl rfl rfl H.1 rfl rfl rfl ?_
    refine c_isFolk H.1 (fun q16 => ?_) (fun q16 => ?_)
    · skip
      refine wp_go rfl rfl ?_
      refine e_ldc 20000000 rfl rfl ?_
      refine wp_go rfl rfl ?_
      refine e_get rfl H22 rfl rfl ?_
      refine e_get rfl H.1 rfl rfl ?_
      refine wp_go rfl rfl ?_
      refine wp_cv rfl rfl rfl H32 rfl rfl rfl ?_
      refine c_balance (who := v - 30) H32 H33 H34 H35 he ham ?_
      have hbb := bal_bd (dt := e.2.1) (ow := e.2.2.1) (who := v - 30) e.1 ham
      refine e_iadd rfl (by omega) ?_
      refine wp_go rfl rfl ?_
      refine wp_ret rfl rfl ?_
      rw [Int.add_comm]
      exact k30 (by omega)
    · skip
      refine wp_go rfl rfl ?_
      refine wp_go rfl rfl ?_
      refine wp_ret rfl rfl ?_
      exact kx (by omega) (by omega) (by omega) (by omega)
