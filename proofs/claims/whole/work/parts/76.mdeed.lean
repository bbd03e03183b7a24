/-! the reference: a sum read; numbers of deeds -/
theorem mk_no : ∀ l : List Int, (∀ z, z ∈ l → z < 40) → mki l = -1 ∧ mkk l = -1
  | [], _ => ⟨rfl, rfl⟩
  | x :: r, h => by
    have hx := h x List.mem_cons_self
    rw [mki, mkk, if_neg (by omega), if_neg (by omega)]
    exact mk_no r (fun z hz => h z (List.mem_cons_of_mem x hz))
set_option maxRecDepth 100000 in
theorem c_parsed {B : Nat → Int} {n : Nat} {lw : Int} {t0 d : Nat} (H : BY B) (hn : n ≤ 300) (hlw : lw = 10 ∨ lw = 11) {v : ef} {i w : Nat} {r : cnR} (hsp : sP (tK B n) (tN B n) lw 4000 2 0 v i = some r) {h : hc_H} {Q : List hc_V → hc_H → Prop} {s T f : Nat → Int} (H71 : h.2.2 71 = mo s) (H74 : h.2.2 74 = ar 2720 T) (H75 : h.2.2 75 = ar 300 B) (H76 : h.2.2 76 = ar 160 f) (hTA : TA B n s i) (e12 : s 12 = (t0 : Int)) (e14 : s 14 = (w : Int)) (e18 : s 18 = 0) (e20 : s 20 = lw - 10) (hb : w ≤ i ∧ i ≤ 300 ∧ t0 ≤ 2040)
    (kok : ∀ (j : Nat) (V : ef), r = .inr (j, V) → ∀ (h2 : hc_H) (s2 T2 f2 : Nat → Int) (w2 : Nat), h2.2.2 71 = mo s2 → h2.2.2 74 = ar 2720 T2 → h2.2.2 76 = ar 160 f2 → TA B n s2 j → s2 14 = (w2 : Int) → s2 18 = 0 → PC lw T2 (t0 + 75) w w2 V false → (i ≤ j ∧ j ≤ 300 ∧ w2 ≤ j) → TSM T T2 t0 w → ME mel s s2 → Fr mfl h h2 → Q [xI 0] h2)
    (kf : KFM B n t0 w h s T r Q) : hc_wp (d + 6) mX10_parsed 0 [xR 71, xI 0, none, none] [] h Q := by
  refine wp_go rfl rfl ?_
  refine wp_go rfl rfl ?_
  refine e_put rfl H71 rfl rfl ?_
  refine wp_go rfl rfl ?_
  refine wp_go rfl rfl ?_
  refine e_put rfl (show _ = mo (hc_u s 17 0) from rfl) rfl rfl ?_
  refine wp_go rfl rfl ?_
  refine e_istn (L' := [xR 71, xI 0, xI 1, none]) rfl rfl rfl ?_
  have m0 : ME mel s (hc_u (hc_u s 17 0) 19 0) := (ME.rf.u rfl).u rfl
  have M : MST B n (hc_wr (hc_wr h 71 (mo (hc_u s 17 0))) 71 (mo (hc_u (hc_u s 17 0) 19 0))) (hc_u (hc_u s 17 0) 19 0) T f t0 lw i w ([] ++ []) (((0 : Nat) : Int) + 0) 0 := ⟨rfl, H74, H75, H76, TA_me hTA (show ME [17, 19] s _ from (ME.rf.u rfl).u rfl) rfl, e12, e14, rfl, e18, rfl, e20, trivial⟩
  refine cm_all (t0 := t0) (d := d) H hn hlw 4000 2 (by decide) 0 v i r hsp _ Q (hc_u (hc_u s 17 0) 19 0) T f w w 0 [] [] none M (by have x2 : mx 2 = 2 := rfl; rw [x2]; simp; omega) (fun z r e => by cases e) (fun z => absurd z (by decide)) (fun z => absurd z (by decide)) (fun _ => rfl) (fun _ => ⟨rfl, fun _ => rfl⟩) (fun z => absurd z (by decide)) (fun _ _ _ => rfl) ?_ ?_
  · intro j V e h2 s2 T2 f2 w2 ops2 l2 M2 P2 O2 F2 B2 S2 ME2 FR2
    rw [List.append_nil] at M2 B2
    have O2l := O2.2.1
    have x2 : mx 2 = 2 := rfl
    rw [x2] at O2l
    have F2b : ¬ (46 ≤ tK B n j ∧ tK B n j ≤ 49) := F2
    have h40 : ∀ z, z ∈ ops2 → z < 40 := fun z hz => rkm_lt (Int.le_trans (by decide) (O2.1 z hz).1)
    have hmk := mk_no ops2 h40
    have hcb := cnt_bd ops2
    have hko : kop ops2 = 40 := by unfold kop; rw [hmk.1, if_pos (by decide)]
    refine lh_beh M2.1 M2.2.2.2.2.2.2.2.2.2.1 ?_
    refine c_bno rfl M2 (by unfold bto; rw [if_neg F2b, hko, if_neg (by decide)]) (by rw [hmk.2]; omega) (by rw [hmk.2]; omega) (by rw [hmk.2]; omega) (by rw [hmk.2]; omega) (by omega) ?_
    refine lh_e0 M2.1 M2.2.1 M2.2.2.2.1 M2.2.2.2.2.2.1 M2.2.2.2.2.2.2.1 M2.2.2.2.2.2.2.2.1 (by rw [M2.2.2.2.2.2.2.2.2.1]; omega) (by omega) M2.2.2.2.2.2.2.2.2.2.2.2 (by rw [hmk.1]; decide) (by omega) (fun z hz => Int.le_trans (by decide) (O2.1 z hz).1) (fun h3 s3 T3 D71 D74 D14 D18 DME DSA DCD DFR => ?_)
    have hpc := P2.pc DSA DCD
    exact kok j V e h3 s3 T3 f2 (w2 + ops2.length) D71 D74 ((DFR.2.2 76 rfl).trans M2.2.2.2.1) (TA_me M2.2.2.2.2.1 DME rfl) D14 (by rw [D18, M2.2.2.2.2.2.2.2.2.1]; omega) hpc (by omega) (S2.tr (DSA.ts (w0 := w) (by omega) (by omega)) (Nat.le_refl _)) ((m0.tr ME2 (fun _ z => z)).tr (DME.mono (nin_sub rfl)) (fun _ z => z)) ((Fr.tr (l2 := mfl) ((Fr.rf.wr rfl).wr rfl) FR2 (fun _ z => z)).tr (Fr.mono DFR (nin_sub rfl)) (fun _ z => z))
  · intro fl k e h2 s2 T2 f2 a1 a2 a3 a4 a5 a6 a7
    exact kf fl k e h2 s2 T2 f2 a1 a2 a3 a4 (m0.tr a5 (fun _ z => z)) a6 (Fr.tr (l2 := mfl) ((Fr.rf.wr rfl).wr rfl) a7 (fun _ z => z))
set_option maxRecDepth 100000 in
theorem c_sortOf {d : Nat} {h : hc_H} {Q : List hc_V → hc_H → Prop} {K : Int} {s : Nat → Int} (H71 : h.2.2 71 = mo s) (hK : mkd (s 9) (s 11) = K) (k : Q [xI (if 10 ≤ K ∧ K ≤ 14 then K - 10 else -1)] h) : hc_wp (d + 2) mX10_sortOf 0 [xR 71] [] h Q := by
  refine wp_go rfl rfl ?_
  refine wp_go rfl rfl ?_
  refine wp_go rfl rfl ?_
  refine wp_go rfl rfl ?_
  refine wp_go rfl rfl ?_
  refine wp_call rfl rfl rfl rfl ?_
  refine c_w4 (r1 := 7630700) (r := 1953459308) (by decide +kernel) (by decide +kernel) ?_
  refine wp_cv rfl rfl rfl H71 rfl rfl rfl ?_
  refine c_isWord H71 (fun q12 => ?_) (fun q12 => ?_)
  · skip
    refine wp_go rfl rfl ?_
    refine wp_go rfl rfl ?_
    refine wp_ret rfl rfl ?_
    rw [show K = 10 from (mkw_10 hK).1 q12] at k
    exact k
  · skip
    refine wp_go rfl rfl ?_
    refine wp_go rfl rfl ?_
    refine wp_go rfl rfl ?_
    refine wp_go rfl rfl ?_
    refine wp_go rfl rfl ?_
    refine wp_go rfl rfl ?_
    refine wp_call rfl rfl rfl rfl ?_
    refine c_w4 (r1 := 7501154) (r := 1920295539) (by decide +kernel) (by decide +kernel) ?_
    refine wp_cv rfl rfl rfl H71 rfl rfl rfl ?_
    refine c_isWord H71 (fun q32 => ?_) (fun q32 => ?_)
    · skip
      refine wp_go rfl rfl ?_
      refine wp_go rfl rfl ?_
      refine wp_ret rfl rfl ?_
      rw [show K = 11 from (mkw_11 hK).1 q32] at k
      exact k
    · skip
      refine wp_go rfl rfl ?_
      refine wp_go rfl rfl ?_
      refine wp_go rfl rfl ?_
      refine wp_go rfl rfl ?_
      refine wp_go rfl rfl ?_
      refine wp_call rfl rfl rfl rfl ?_
      refine c_w3 (r := 7364985) (by decide +kernel) ?_
      refine wp_cv rfl rfl rfl H71 rfl rfl rfl ?_
      refine c_isWord H71 (fun q50 => ?_) (fun q50 => ?_)
      · skip
        refine wp_go rfl rfl ?_
        refine wp_go rfl rfl ?_
        refine wp_ret rfl rfl ?_
        rw [show K = 12 from (mkw_12 hK).1 q50] at k
        exact k
      · skip
        refine wp_go rfl rfl ?_
        refine wp_go rfl rfl ?_
        refine wp_go rfl rfl ?_
        refine wp_go rfl rfl ?_
        refine wp_go rfl rfl ?_
        refine wp_go rfl rfl ?_
        refine wp_go rfl rfl ?_
        refine wp_call rfl rfl rfl rfl ?_
        refine c_w5 (r1 := 6779489) (r := 444300619380) (by decide +kernel) (by decide +kernel) ?_
        refine wp_cv rfl rfl rfl H71 rfl rfl rfl ?_
        refine c_isWord H71 (fun q72 => ?_) (fun q72 => ?_)
        · skip
          refine wp_go rfl rfl ?_
          refine wp_go rfl rfl ?_
          refine wp_go rfl rfl ?_
          refine wp_ret rfl rfl ?_
          rw [show K = 13 from (mkw_13 hK).1 q72] at k
          exact k
        · skip
          refine wp_go rfl rfl ?_
          refine wp_go rfl rfl ?_
          refine wp_go rfl rfl ?_
          refine wp_go rfl rfl ?_
          refine wp_go rfl rfl ?_
          refine wp_go rfl rfl ?_
          refine wp_call rfl rfl rfl rfl ?_
          refine c_w4 (r1 := 7364979) (r := 1885434739) (by decide +kernel) (by decide +kernel) ?_
          refine wp_cv rfl rfl rfl H71 rfl rfl rfl ?_
          refine c_isWord H71 (fun q94 => ?_) (fun q94 => ?_)
          · skip
            refine wp_go rfl rfl ?_
            refine wp_go rfl rfl ?_
            refine wp_go rfl rfl ?_
            refine wp_ret rfl rfl ?_
            rw [show K = 14 from (mkw_14 hK).1 q94] at k
            exact k
          · skip
            refine wp_go rfl rfl ?_
            refine wp_go rfl rfl ?_
            refine wp_ret rfl rfl ?_
            rw [if_neg] at k
            · exact k
            · intro z
              have hc : K = 10 ∨ K = 11 ∨ K = 12 ∨ K = 13 ∨ K = 14 := by omega
              rcases hc with hc | hc | hc | hc | hc
              · exact q12 ((mkw_10 hK).2 hc)
              · exact q32 ((mkw_11 hK).2 hc)
              · exact q50 ((mkw_12 hK).2 hc)
              · exact q72 ((mkw_13 hK).2 hc)
              · exact q94 ((mkw_14 hK).2 hc)
set_option maxRecDepth 100000 in
theorem c_figure {d : Nat} {h : hc_H} {Q : List hc_V → hc_H → Prop} {B : Nat → Int} {n i : Nat} {lo hi : Int} {s : Nat → Int} (H : BY B) (hn : n ≤ 300) (hhi : hi ≤ 9999) (H71 : h.2.2 71 = mo s) (H75 : h.2.2 75 = ar 300 B) (hTA : TA B n s i) (k1 : ¬ tK B n i = 3 → Q [xI 1] h) (k2 : tK B n i = 3 → ¬ (lo ≤ tN B n i ∧ tN B n i ≤ hi) → Q [xI 2] h) (ky : tK B n i = 3 → lo ≤ tN B n i ∧ tN B n i ≤ hi → ∀ h2 s2, h2.2.2 71 = mo s2 → TA B n s2 (i + 1) → s2 21 = tN B n i → ME [7, 8, 9, 10, 11, 21] s s2 → Fr [71] h h2 → Q [xI 0] h2) : hc_wp (d + 3) mX10_figure 0 [xR 71, xI lo, xI hi] [] h Q := by
  have h3 := mks_3 hTA.2.2.2.1
  refine wp_go rfl rfl ?_
  refine e_get rfl H71 rfl rfl ?_
  refine wp_go rfl rfl ?_
  refine e_ceq rfl (fun c5 => ?_) (fun c5 => ?_)
  · skip
    refine wp_go rfl rfl ?_
    refine e_get rfl H71 rfl rfl ?_
    refine wp_go rfl rfl ?_
    refine wp_go rfl rfl ?_
    refine wp_call rfl rfl rfl rfl ?_
    refine c_isIn  (fun q16 => ?_) (fun q16 => ?_)
    · skip
      refine wp_go rfl rfl ?_
      refine wp_go rfl rfl ?_
      refine wp_go rfl rfl ?_
      refine e_get rfl H71 rfl rfl ?_
      refine e_put (fs' := [xR 72, xR 73, xR 74, xR 75, xI (s 4), xI (s 5), xI (s 6), xI (s 7), xI (s 8), xI (s 9), xI (s 10), xL (s 11), xI (s 12), xI (s 13), xI (s 14), xI (s 15), xR 76, xI (s 17), xI (s 18), xI (s 19), xI (s 20), xI (s 10), xI (s 22), xR 77, xR 78, xR 79, xR 80, xR 81, xR 82, xR 83, xI (s 30), xR 84, xR 85, xR 86, xR 87, xR 88, xR 89, xR 90]) rfl H71 rfl rfl ?_
      refine wp_go rfl rfl ?_
      refine wp_cv rfl rfl rfl rfl rfl rfl rfl ?_
      refine c_nextT (i := i + 1) (s := hc_u s 21 (s 10)) H hn rfl hTA.1 hTA.2.1 H75 (fun h2 s2 C71 CTA CME CFR => ?_)
      refine wp_go rfl rfl ?_
      refine wp_ret rfl rfl ?_
      exact ky (h3.1 c5) (by have := hTA.2.2.2.2 c5; omega) h2 s2 C71 CTA ((CME 21 rfl).trans (show s 10 = tN B n i by have := hTA.2.2.2.2 c5; omega)) ((ME.rf.u (a := 21) rfl).tr (CME.mono (nin_sub rfl)) (fun _ z => z)) ((Fr.rf.wr rfl).tr CFR (fun _ z => z))
    · skip
      refine wp_go rfl rfl ?_
      refine wp_go rfl rfl ?_
      refine wp_ret rfl rfl ?_
      exact k2 (h3.1 c5) (by have := hTA.2.2.2.2 c5; omega)
  · skip
    refine wp_go rfl rfl ?_
    refine wp_ret rfl rfl ?_
    exact k1 (fun z => c5 (h3.2 z))
set_option maxRecDepth 100000 in
theorem c_isTo {d : Nat} {h : hc_H} {Q : List hc_V → hc_H → Prop} {K : Int} {s : Nat → Int} (H71 : h.2.2 71 = mo s) (hK : mkd (s 9) (s 11) = K) (kt : K = 17 → Q [xI 1] h) (kf : ¬ K = 17 → Q [xI 0] h) : hc_wp d mX10_isTo 0 [xR 71] [] h Q := by
  have h17 := mkw_17 hK
  refine wp_go rfl rfl ?_
  refine e_get rfl H71 rfl rfl ?_
  refine wp_go rfl rfl ?_
  refine e_cne rfl (fun c5 => ?_) (fun c5 => ?_)
  · skip
    refine wp_go rfl rfl ?_
    refine wp_ret rfl rfl ?_
    exact kf (fun z => c5 (h17.2 z).1)
  · skip
    refine wp_go rfl rfl ?_
    refine e_get rfl H71 rfl rfl ?_
    refine e_ldc2 (29807) rfl rfl ?_
    refine wp_go rfl rfl ?_
    refine e_ifne rfl (fun c16 => ?_) (fun c16 => ?_)
    · skip
      refine wp_go rfl rfl ?_
      refine wp_ret rfl rfl ?_
      exact kf (fun z => c16 (k3_eq.2 (h17.2 z).2))
    · skip
      refine wp_go rfl rfl ?_
      refine wp_go rfl rfl ?_
      refine wp_ret rfl rfl ?_
      exact kt (h17.1 ⟨c5, k3_eq.1 c16⟩)
set_option maxRecDepth 100000 in
theorem c_person0 {d : Nat} {h : hc_H} {Q : List hc_V → hc_H → Prop}  (k : Q [xI 1] h) : hc_wp (d + 4) mX10_person 0 [xR 71, xI 0] [] h Q := by
  refine wp_go rfl rfl ?_
  refine wp_go rfl rfl ?_
  refine wp_go rfl rfl ?_
  refine wp_ret rfl rfl ?_
  exact k
set_option maxRecDepth 100000 in
theorem c_person1 {d : Nat} {h : hc_H} {Q : List hc_V → hc_H → Prop} {B : Nat → Int} {n i : Nat} {s : Nat → Int} (H : BY B) (hn : n ≤ 300) (H71 : h.2.2 71 = mo s) (H75 : h.2.2 75 = ar 300 B) (hTA : TA B n s i) (kf : ∀ fl : Int, (fl = 1 ∧ ¬ tK B n (i + 1) = 3) ∨ (fl = 2 ∧ tK B n (i + 1) = 3 ∧ ¬ (0 ≤ tN B n (i + 1) ∧ tN B n (i + 1) ≤ 7)) → ∀ h2 s2, h2.2.2 71 = mo s2 → TA B n s2 (i + 1) → ME [7, 8, 9, 10, 11] s s2 → Fr [71] h h2 → Q [xI fl] h2) (ky : tK B n (i + 1) = 3 → 0 ≤ tN B n (i + 1) ∧ tN B n (i + 1) ≤ 7 → ∀ h2 s2, h2.2.2 71 = mo s2 → TA B n s2 (i + 1 + 1) → s2 21 = tN B n (i + 1) → ME [7, 8, 9, 10, 11, 21] s s2 → Fr [71] h h2 → Q [xI 0] h2) : hc_wp (d + 4) mX10_person 0 [xR 71, xI 1] [] h Q := by
  refine wp_go rfl rfl ?_
  refine wp_go rfl rfl ?_
  refine wp_go rfl rfl ?_
  refine wp_cv rfl rfl rfl H71 rfl rfl rfl ?_
  refine c_nextT (i := i + 1) H hn H71 hTA.1 hTA.2.1 H75 (fun h1 s1 C71 CTA CME CFR => ?_)
  refine wp_go rfl rfl ?_
  refine wp_go rfl rfl ?_
  refine wp_go rfl rfl ?_
  refine wp_cv rfl rfl rfl C71 rfl rfl rfl ?_
  refine c_figure (i := i + 1) H hn (by decide) C71 ((CFR.2.2 75 rfl).trans H75) CTA (fun z => ?_) (fun z1 z2 => ?_) (fun z1 z2 h2 s2 D71 DTA D21 DME DFR => ?_)
  · exact wp_ret rfl rfl (kf 1 (Or.inl ⟨rfl, z⟩) h1 s1 C71 CTA CME CFR)
  · exact wp_ret rfl rfl (kf 2 (Or.inr ⟨rfl, z1, z2⟩) h1 s1 C71 CTA CME CFR)
  · exact wp_ret rfl rfl (ky z1 z2 h2 s2 D71 DTA D21 ((CME.mono (nin_sub rfl)).tr DME (fun _ z => z)) (CFR.tr DFR (fun _ z => z)))
