/-! the reference: the bell -/
set_option maxRecDepth 100000 in
theorem l_mbe1 {d : Nat} {h0_ : hc_H} {Q : List hc_V → hc_H → Prop} {nf : Nat} {n S w : Int} {s A mk : Nat → Int} (hnf : nf ≤ 8) (h0 : A 0 = (nf : Int)) (hm : ∀ p, p < 8 → A (12 + 2 * p) = mk p) (hmk : ∀ j, j < 8 → 0 ≤ mk j ∧ mk j ≤ 720720) (hms : ∀ j, j < nf → mk j ≤ S) (hn : 1 ≤ n ∧ n ≤ 720720) (hS : 1 ≤ S) (k : ∀ h2 ms2 py2 cu2 l6 l7 l8, ms2 = blf n mk S nf → (∀ p, p < nf → py2 p = n * mk p / S ∧ cu2 p = n * mk p % S) → h2.2.2 71 = mo s → h2.2.2 72 = ar 456 A → h2.2.2 89 = ar 8 py2 → h2.2.2 90 = arL 8 cu2 → Fr [89, 90] h0_ h2 → hc_wp (d + 2) mX10_bell 108 [xR 71, xI n, xI w, xL S, none, xI ms2, xI l6, l7, l8] [] h2 Q) : ∀ (g j : Nat) (ms : Int) (py cu : Nat → Int) (l7 l8 : hc_V) (h : hc_H), (j ≤ nf ∧ nf < j + g) → ms = blf n mk S j → (∀ p, p < j → py p = n * mk p / S ∧ cu p = n * mk p % S) → h.2.2 71 = mo s → h.2.2 72 = ar 456 A → h.2.2 89 = ar 8 py → h.2.2 90 = arL 8 cu → Fr [89, 90] h0_ h → hc_wp (d + 2) mX10_bell 44 [xR 71, xI n, xI w, xL S, none, xI ms, xI (j : Int), l7, l8] [] h Q := by
  intro g
  induction g with
  | zero =>
    intro j ms py cu l7 l8 h hj
    exact absurd hj (by omega)
  | succ g ih =>
    intro j ms py cu l7 l8 h hj hms2 HI H71 H72 H89 H90 HF
    refine wp_go rfl rfl ?_
    refine wp_go rfl rfl ?_
    refine e_get rfl H71 rfl rfl ?_
    refine wp_go rfl rfl ?_
    refine e_aldE (p := 0) rfl H72 rfl ⟨by omega, by omega⟩ ?_
    rw [h0]
    refine e_cge rfl (fun c52 => ?_) (fun c52 => ?_)
    · skip
      rw [show j = nf by omega] at hms2 HI
      exact k h ms py cu _ _ _ hms2 HI H71 H72 H89 H90 HF
    · skip
      have hb := be_ar hn (hmk j (by omega)) hS (hms j (by omega))
      have hbb := blf_bd hn hS (mk := mk) j (fun p hp => ⟨hmk p (by omega), hms p (by omega)⟩)
      refine wp_go rfl rfl ?_
      refine wp_go rfl rfl ?_
      refine wp_go rfl rfl ?_
      refine wp_go rfl rfl ?_
      refine wp_cv rfl rfl rfl H71 rfl rfl rfl ?_
      refine c_marksOf (p := j) H71 H72 (by omega) ?_
      rw [hm j (by omega)]
      refine wp_go rfl rfl ?_
      refine e_lmul rfl (by omega) ?_
      refine e_lst (L' := [xR 71, xI n, xI w, xL S, none, xI ms, xI (j : Int), xL (n * (mk j)), none]) rfl rfl rfl ?_
      obtain ⟨pr, hpr⟩ : ∃ z : Int, z = (n * (mk j)) := ⟨_, rfl⟩
      rw [← hpr]
      rw [← hpr] at hb
      refine wp_go rfl rfl ?_
      refine e_get rfl H71 rfl rfl ?_
      refine wp_go rfl rfl ?_
      refine wp_go rfl rfl ?_
      refine wp_go rfl rfl ?_
      refine e_ldiv rfl (by omega) (by rw [hb.2.1]; omega) ?_
      rw [hb.2.1]
      refine wp_go rfl rfl ?_
      rw [hc_l2i_id (by omega) (by omega)]
      refine e_iastE (p := j) rfl H89 ⟨by omega, by omega⟩ ?_
      refine wp_go rfl rfl ?_
      refine e_get rfl H71 rfl rfl ?_
      refine wp_go rfl rfl ?_
      refine wp_go rfl rfl ?_
      refine wp_go rfl rfl ?_
      refine e_lrem rfl (by omega) ?_
      rw [hb.2.2.2.1]
      refine e_lastE (p := j) rfl H90 ⟨by omega, by omega⟩ ?_
      refine wp_go rfl rfl ?_
      refine wp_go rfl rfl ?_
      refine e_get rfl H71 rfl rfl ?_
      refine wp_go rfl rfl ?_
      refine e_aldE (p := j) rfl rfl rfl ⟨by omega, by omega⟩ ?_
      rw [hu_s]
      refine e_isub rfl (by omega) ?_
      refine e_ist (L' := [xR 71, xI n, xI w, xL S, none, xI (ms - (pr / S)), xI (j : Int), xL pr, none]) rfl rfl rfl ?_
      refine e_inc (L' := [xR 71, xI n, xI w, xL S, none, xI (ms - (pr / S)), xI ((j : Int) + 1), xL pr, none]) rfl rfl (by omega) rfl ?_
      refine wp_go rfl rfl ?_
      refine ih (j + 1) _ _ _ _ _ _ (by omega) (by rw [blf, ← hms2, ← hpr]) (fun p hp => ?_) H71 H72 rfl rfl ((HF.wr rfl).wr rfl)
      by_cases z : p = j
      · rw [z, hu_s, hu_s, ← hpr]
        exact ⟨rfl, rfl⟩
      · rw [hu_n z, hu_n z]
        exact HI p (by omega)
set_option maxRecDepth 100000 in
theorem l_mbe2 {d : Nat} {h : hc_H} {Q : List hc_V → hc_H → Prop} {nf : Nat} {n S w ms : Int} {l8 : hc_V} {s A cu : Nat → Int} (hnf : nf ≤ 8) (h0 : A 0 = (nf : Int)) (H71 : h.2.2 71 = mo s) (H72 : h.2.2 72 = ar 456 A) (H90 : h.2.2 90 = arL 8 cu) (k : ∀ (m : Nat) (j2 : Int), m < nf → (∀ i, i < nf → cu i ≤ cu m) → (∀ i, i < m → cu i < cu m) → hc_wp (d + 2) mX10_bell 158 [xR 71, xI n, xI w, xL S, none, xI ms, xI (m : Int), xI j2, l8] [] h Q) : ∀ (g j m : Nat), (m < j ∧ j ≤ nf ∧ nf < j + g) → (∀ i, i < j → cu i ≤ cu m) → (∀ i, i < m → cu i < cu m) → hc_wp (d + 2) mX10_bell 119 [xR 71, xI n, xI w, xL S, none, xI ms, xI (m : Int), xI (j : Int), l8] [] h Q := by
  intro g
  induction g with
  | zero =>
    intro j m hj
    exact absurd hj (by omega)
  | succ g ih =>
    intro j m hj HM HN
    refine wp_go rfl rfl ?_
    refine wp_go rfl rfl ?_
    refine e_get rfl H71 rfl rfl ?_
    refine wp_go rfl rfl ?_
    refine e_aldE (p := 0) rfl H72 rfl ⟨by omega, by omega⟩ ?_
    rw [h0]
    refine e_cge rfl (fun c127 => ?_) (fun c127 => ?_)
    · skip
      exact k m _ (by omega) (fun i hi => HM i (by omega)) HN
    · skip
      refine wp_go rfl rfl ?_
      refine e_get rfl H71 rfl rfl ?_
      refine wp_go rfl rfl ?_
      refine e_laldE (p := j) rfl H90 ⟨by omega, by omega⟩ ?_
      refine wp_go rfl rfl ?_
      refine e_get rfl H71 rfl rfl ?_
      refine wp_go rfl rfl ?_
      refine e_laldE (p := m) rfl H90 ⟨by omega, by omega⟩ ?_
      refine wp_go rfl rfl ?_
      refine e_ifle rfl (fun c145 => ?_) (fun c145 => ?_)
      · skip
        refine e_inc (L' := [xR 71, xI n, xI w, xL S, none, xI ms, xI (m : Int), xI ((j : Int) + 1), l8]) rfl rfl (by omega) rfl ?_
        refine wp_go rfl rfl ?_
        have hk3 := k3_le.1 c145
        refine ih (j + 1) m (by omega) (fun i hi => ?_) HN
        by_cases z : i = j
        · rw [z]
          exact hk3
        · exact HM i (by omega)
      · skip
        refine wp_go rfl rfl ?_
        refine e_ist (L' := [xR 71, xI n, xI w, xL S, none, xI ms, xI (j : Int), xI (j : Int), l8]) rfl rfl rfl ?_
        refine e_inc (L' := [xR 71, xI n, xI w, xL S, none, xI ms, xI (j : Int), xI ((j : Int) + 1), l8]) rfl rfl (by omega) rfl ?_
        refine wp_go rfl rfl ?_
        have hk3 : cu m < cu j := by
          by_cases z : cu m < cu j
          · exact z
          · exact absurd (k3_le.2 (show cu j ≤ cu m by omega)) c145
        refine ih (j + 1) j (by omega) (fun i hi => ?_) (fun i hi => ?_)
        · by_cases z : i = j
          · rw [z]
            exact Int.le_refl _
          · have := HM i (by omega)
            omega
        · have := HM i (by omega)
          omega
set_option maxRecDepth 100000 in
theorem l_mbe3 {d : Nat} {h0_ : hc_H} {Q : List hc_V → hc_H → Prop} {nf : Nat} {n S w m0 : Int} {s A r b : Nat → Int} (hnf : nf ≤ 8) (h0 : A 0 = (nf : Int)) (hw : 0 ≤ w ∧ w < (nf : Int)) (hr0 : ∀ p, 0 ≤ r p) (hbd : ∀ p, p < nf → 0 ≤ b p ∧ b p ≤ 720720) (hm0 : 0 ≤ m0 ∧ m0 < (nf : Int)) (k : ∀ h2 py2 cu2 g2, cnx g2 nf = m0 → BG nf r b py2 cu2 g2 → BU nf r g2 → h2.2.2 71 = mo s → h2.2.2 72 = ar 456 A → h2.2.2 89 = ar 8 py2 → h2.2.2 90 = arL 8 cu2 → Fr [89, 90] h0_ h2 → Q [xI (py2 (Int.toNat w))] h2) : ∀ (f : Nat) (ms l6 : Int) (l7 l8 : hc_V) (py cu : Nat → Int) (g : Nat → Bool) (h : hc_H), (0 ≤ ms ∧ ms < (f : Int) ∧ ms ≤ 8) → cnx g nf = m0 - ms → BG nf r b py cu g → BU nf r g → h.2.2 71 = mo s → h.2.2 72 = ar 456 A → h.2.2 89 = ar 8 py → h.2.2 90 = arL 8 cu → Fr [89, 90] h0_ h → hc_wp (d + 2) mX10_bell 108 [xR 71, xI n, xI w, xL S, none, xI (ms : Int), xI l6, l7, l8] [] h Q := by
  intro f
  induction f with
  | zero =>
    intro ms l6 l7 l8 py cu g h hj
    exact absurd hj (by omega)
  | succ f ih =>
    intro ms l6 l7 l8 py cu g h hj hcg HG HU H71 H72 H89 H90 HF
    refine wp_go rfl rfl ?_
    refine e_ifle rfl (fun c110 => ?_) (fun c110 => ?_)
    · skip
      refine wp_go rfl rfl ?_
      refine e_get rfl H71 rfl rfl ?_
      refine wp_go rfl rfl ?_
      refine e_aldE (p := Int.toNat w) rfl H89 rfl ⟨by omega, by omega⟩ ?_
      refine wp_ret rfl rfl ?_
      exact k h py cu g (by omega) HG HU H71 H72 H89 H90 HF
    · skip
      refine wp_go rfl rfl ?_
      refine e_ist (L' := [xR 71, xI n, xI w, xL S, none, xI (ms : Int), xI 0, l7, l8]) rfl rfl rfl ?_
      refine wp_go rfl rfl ?_
      refine e_ist (L' := [xR 71, xI n, xI w, xL S, none, xI (ms : Int), xI 0, xI 1, l8]) rfl rfl rfl ?_
      refine l_mbe2 (d := d) (n := n) (S := S) (w := w) hnf h0 H71 H72 H90 (fun m j2 hm hmx hfi => ?_) nf 1 0 (by omega) (fun i hi => by rw [show i = 0 by omega]; exact Int.le_refl _) (fun i hi => absurd hi (by omega))
      have hun := bg_un hm (fun p => hr0 p) HG hmx (by omega)
      have hst := bg_st hm hun HG HU hmx hfi
      have hcu := cnx_u hun nf
      rw [if_pos hm] at hcu
      have hpyb := (HG m hm).1
      rw [hun, if_neg (by decide)] at hpyb
      have hbb := hbd m hm
      refine wp_go rfl rfl ?_
      refine e_get rfl H71 rfl rfl ?_
      refine wp_go rfl rfl ?_
      refine wp_go rfl rfl ?_
      refine e_aldE (p := m) rfl H89 rfl ⟨by omega, by omega⟩ ?_
      refine wp_go rfl rfl ?_
      refine e_iadd rfl (by omega) ?_
      refine e_iastE (p := m) rfl H89 ⟨by omega, by omega⟩ ?_
      refine wp_go rfl rfl ?_
      refine e_get rfl H71 rfl rfl ?_
      refine wp_go rfl rfl ?_
      refine e_ldc2n (-1) rfl rfl ?_
      refine e_lastE (p := m) rfl H90 ⟨by omega, by omega⟩ ?_
      refine e_inc (L' := [xR 71, xI n, xI w, xL S, none, xI (ms + (-1)), xI (m : Int), xI j2, l8]) rfl rfl (by omega) rfl ?_
      refine wp_go rfl rfl ?_
      exact ih _ _ _ _ _ _ _ _ (by omega) (by omega) hst.1 hst.2 H71 H72 rfl rfl ((HF.wr rfl).wr rfl)
set_option maxRecDepth 100000 in
theorem c_mbell {d : Nat} {h : hc_H} {Q : List hc_V → hc_H → Prop} {n w : Int} {s A py cu : Nat → Int} {cs : cT} {e : dX} (hs : cOK cs) (H : RA A cs e) (H71 : h.2.2 71 = mo s) (H72 : h.2.2 72 = ar 456 A) (H89 : h.2.2 89 = ar 8 py) (H90 : h.2.2 90 = arL 8 cu) (kf : ¬ ((1 ≤ n ∧ n ≤ 720720) ∧ (0 ≤ w ∧ w < (cs.nf : Int)) ∧ 1 ≤ smk cs.mk cs.nf) → Q [xI (-1)] h) (kt : (1 ≤ n ∧ n ≤ 720720) → (0 ≤ w ∧ w < (cs.nf : Int)) → 1 ≤ smk cs.mk cs.nf → ∀ h2 py2 cu2, h2.2.2 89 = ar 8 py2 → h2.2.2 90 = arL 8 cu2 → Fr [89, 90] h h2 → Q [xI (n * cs.mk (Int.toNat w) / smk cs.mk cs.nf + if blr n cs.mk (smk cs.mk cs.nf) w cs.nf < blf n cs.mk (smk cs.mk cs.nf) cs.nf then 1 else 0)] h2) : hc_wp (d + 2) mX10_bell 0 [xR 71, xI n, xI w, none, none, none, none, none, none] [] h Q := by
  have hn8 := hs.1
  have hsn := smk_nf hs
  refine wp_go rfl rfl ?_
  refine wp_go rfl rfl ?_
  refine e_ldc 720720 rfl rfl ?_
  refine wp_call rfl rfl rfl rfl ?_
  refine c_isIn  (fun q4 => ?_) (fun q4 => ?_)
  · skip
    refine wp_go rfl rfl ?_
    refine wp_go rfl rfl ?_
    refine wp_go rfl rfl ?_
    refine wp_cv rfl rfl rfl H71 rfl rfl rfl ?_
    refine c_misF (nf := cs.nf) H71 H72 H.1.1 hs.1 (fun q12 => ?_) (fun q12 => ?_)
    · skip
      refine wp_go rfl rfl ?_
      refine wp_go rfl rfl ?_
      refine wp_cv rfl rfl rfl H71 rfl rfl rfl ?_
      refine c_boxed (nf := cs.nf) (mk := cs.mk) H71 H72 H.1.1 hs.1 H.mkv hs.2.1.1 ?_
      refine e_ldc 720720 rfl rfl ?_
      refine e_cne rfl (fun c24 => ?_) (fun c24 => ?_)
      · skip
        refine e_ldc 720720 rfl rfl ?_
        refine wp_go rfl rfl ?_
        refine wp_cv rfl rfl rfl H71 rfl rfl rfl ?_
        refine c_boxed (nf := cs.nf) (mk := cs.mk) H71 H72 H.1.1 hs.1 H.mkv hs.2.1.1 ?_
        refine e_isub rfl (by omega) ?_
        refine wp_go rfl rfl ?_
        refine e_lstn (L' := [xR 71, xI n, xI w, xL (720720 - (720720 - smk cs.mk cs.nf)), none, none, none, none, none]) rfl rfl rfl ?_
        obtain ⟨S, hSS⟩ : ∃ z : Int, z = smk cs.mk cs.nf := ⟨_, rfl⟩
        rw [show (720720 : Int) - (720720 - smk cs.mk cs.nf) = S by omega]
        have hS1 : 1 ≤ S := by omega
        have hms : ∀ j, j < cs.nf → cs.mk j ≤ S := by
          rw [hSS]
          exact (smk_ge cs.nf (fun j hj => (hs.2.1.1 j (by omega)).1)).2
        refine wp_go rfl rfl ?_
        refine e_ist (L' := [xR 71, xI n, xI w, xL S, none, xI n, none, none, none]) rfl rfl rfl ?_
        refine wp_go rfl rfl ?_
        refine e_ist (L' := [xR 71, xI n, xI w, xL S, none, xI n, xI 0, none, none]) rfl rfl rfl ?_
        refine l_mbe1 (d := d) (h0_ := h) (s := s) (mk := cs.mk) hs.1 H.1.1 H.mkv hs.2.1.1 hms q4 hS1 (fun h2 ms2 py2 cu2 l6 l7 l8 e1 e2 A71 A72 A89 A90 F2 => ?_) (cs.nf + 1) 0 n py cu _ _ h (by omega) rfl (fun p hp => absurd hp (by omega)) H71 H72 H89 H90 Fr.rf
        have hbl := blf_lt (n := n) hS1 hSS.symm (show 1 ≤ cs.nf by omega)
        rw [← e1] at hbl
        refine l_mbe3 (d := d) (h0_ := h) (s := s) (m0 := ms2) (r := fun p => n * cs.mk p % S) (b := fun p => n * cs.mk p / S) hs.1 H.1.1 q12 (fun p => Int.emod_nonneg _ (by omega)) (fun p hp => (be_ar q4 (hs.2.1.1 p (by omega)) hS1 (hms p hp)).2.2.1) hbl (fun h3 py3 cu3 g3 g1 g2 gu B71 B72 B89 B90 F3 => ?_) (cs.nf + 1) ms2 l6 l7 l8 py2 cu2 (fun _ => false) h2 (by omega) ?_ (fun p hp => ?_) (fun p q _ _ z => nomatch z) A71 A72 A89 A90 F2
        · have e9 := bg_end (w := Int.toNat w) (by omega) g2 gu (by rw [g1, e1])
          rw [show ((Int.toNat w : Nat) : Int) = w by omega] at e9
          rw [e9]
          have e8 := kt q4 q12 (by omega) h3 py3 cu3 B89 B90 F3
          rw [← hSS] at e8
          exact e8
        · have : ∀ n : Nat, cnx (fun _ => false) n = 0 := fun n => by
            induction n with
            | zero => rfl
            | succ n ih => rw [cnx, if_neg (by decide), ih]
          rw [this]
          omega
        · rw [(e2 p hp).1, (e2 p hp).2, if_neg (fun z => nomatch z), if_neg (fun z => nomatch z)]
          exact ⟨(Int.add_zero _).symm, rfl⟩
      · skip
        refine wp_go rfl rfl ?_
        refine wp_ret rfl rfl ?_
        exact kf (by omega)
    · skip
      refine wp_go rfl rfl ?_
      refine wp_go rfl rfl ?_
      refine wp_ret rfl rfl ?_
      exact kf (by omega)
  · skip
    refine wp_go rfl rfl ?_
    refine wp_go rfl rfl ?_
    refine wp_ret rfl rfl ?_
    exact kf (by omega)
