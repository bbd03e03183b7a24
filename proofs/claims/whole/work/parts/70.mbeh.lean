/-! the reference: a sum goes on -/
theorem TA_me {B : Nat → Int} {n i : Nat} {s s2 : Nat → Int} {l : List Nat} (h : TA B n s i) (m : ME l s s2) (hl : (nin l 4 && nin l 7 && nin l 8 && nin l 9 && nin l 10 && nin l 11) = true) : TA B n s2 i := by
  simp only [Bool.and_eq_true] at hl
  obtain ⟨⟨⟨⟨⟨a4, a7⟩, a8⟩, a9⟩, a10⟩, a11⟩ := hl
  refine ⟨(m 4 a4).trans h.1, (m 7 a7).trans h.2.1, (m 8 a8).trans h.2.2.1, ?_, ?_⟩
  · rw [m 9 a9, m 11 a11]
    exact h.2.2.2.1
  · rw [m 9 a9, m 10 a10]
    exact h.2.2.2.2
theorem mki_c {a : List Int} {x : Int} {p : List Int} (ha : ∀ z, z ∈ a → z < 40) (hx : 40 ≤ x) : mki (a ++ x :: p) = (p.length : Int) ∧ mkk (a ++ x :: p) = x := by
  induction a with
  | nil => rw [List.nil_append, mki, mkk, if_pos hx, if_pos hx]; exact ⟨rfl, rfl⟩
  | cons y a ih =>
    have hy : ¬ 40 ≤ y := by have := ha y List.mem_cons_self; omega
    rw [List.cons_append, mki, mkk, if_neg hy, if_neg hy]
    exact ih (fun z hz => ha z (List.mem_cons_of_mem y hz))
theorem cnt_bd : ∀ l : List Int, 0 ≤ cnt l ∧ cnt l ≤ (l.length : Int)
  | [] => by simp [cnt]
  | x :: r => by
    have := cnt_bd r
    rw [cnt, List.length_cons]
    split <;> omega
theorem rkm_lt {z : Int} (h : 1 ≤ rkm z) : z < 40 := by
  unfold rkm at h
  split at h <;> omega
theorem rkm_mk {z : Int} (h : 40 ≤ z) : rkm z = 0 := if_pos h
set_option maxRecDepth 100000 in
theorem c_bop {d : Nat} {h : hc_H} {Q : List hc_V → hc_H → Prop} {B : Nat → Int} {n i w t0 : Nat} {lw q K : Int} {s T f : Nat → Int} {x : Int} {ops rest : List Int} (H : BY B) (hn : n ≤ 300) (hKK : tK B n i = K) (M : MST B n h s T f t0 lw i w (ops ++ rest) q 1) (hx : bto K (ops ++ rest) = x) (hx0 : 0 ≤ x) (hall : ∀ z, z ∈ ops → rkm x ≤ rkm z) (hrest : ∀ z r, rest = z :: r → rkm z < rkm x) (hb : w + (ops ++ rest).length ≤ i ∧ i ≤ 300 ∧ (ops ++ rest).length ≤ 100 ∧ -1000 ≤ q ∧ q ≤ 1000 ∧ t0 ≤ 2040) (k : ∀ h2 s2 T2 f2, MST B n h2 s2 T2 f2 t0 lw (i + 1) (w + ops.length) (x :: rest) (q - cnt ops) 0 → SAM T T2 (t0 + 75) w ops.length → CDS T2 (t0 + 75) w ops → ME mel s s2 → Fr mfl h h2 → Q [xI 1] h2) : hc_wp (d + 5) mX10_behindOne 0 [xR 71, xI 0, none, none, none] [] h Q := by
  obtain ⟨H71, H74, H75, H76, hTA, e12, e14, e17, e18, e19, e20, hp⟩ := M
  have hK : mkd (s 9) (s 11) = K := hTA.2.2.2.1.trans hKK
  have hla : (ops ++ rest).length = ops.length + rest.length := List.length_append
  refine wp_go rfl rfl ?_
  refine wp_go rfl rfl ?_
  refine wp_cv rfl rfl rfl H71 rfl rfl rfl ?_
  refine c_betweenOf hK H71 H76 e17 (by omega) hp ?_
  rw [hx]
  refine e_istn (L' := [xR 71, xI 0, xI x, none, none]) rfl rfl rfl ?_
  refine wp_go rfl rfl ?_
  refine wp_cv rfl rfl rfl H71 rfl rfl rfl ?_
  refine c_marker H71 H76 e17 (by omega) hp ?_
  have hmb := mki_bd (ops ++ rest)
  refine e_istn (L' := [xR 71, xI 0, xI x, xI (mki (ops ++ rest)), none]) rfl rfl rfl ?_
  refine wp_go rfl rfl ?_
  refine e_ifge rfl (fun c12 => ?_) (fun c12 => ?_)
  · skip
    refine wp_go rfl rfl ?_
    refine e_get rfl H71 rfl rfl ?_
    refine wp_go rfl rfl ?_
    refine e_aldE (p := (mki (ops ++ rest)).toNat) rfl H76 rfl ⟨by omega, by omega⟩ ?_
    refine e_ist (L' := [xR 71, xI 0, xI x, xI (mki (ops ++ rest)), xI (f ((mki (ops ++ rest)).toNat))]) rfl rfl rfl ?_
    refine wp_go rfl rfl ?_
    refine e_iflt rfl (fun c28 => absurd c28 (by omega)) (fun c28 => ?_)
    refine wp_go rfl rfl ?_
    refine wp_go rfl rfl ?_
    refine wp_call rfl rfl rfl rfl ?_
    refine c_rank ?_
    refine wp_cv rfl rfl rfl H71 rfl rfl rfl ?_
    refine c_settle5 (rest := rest) hrest (ops) w _ s T H71 H74 H76 e12 e14 e17 (by rw [e18]; omega) (by omega) hp (by omega) hall (fun h1 s1 T1 D71 D74 D17 D14 D18 DME DSA DCD DFR => ?_)
    refine wp_go rfl rfl ?_
    refine wp_go rfl rfl ?_
    refine wp_cv rfl rfl rfl D71 rfl rfl rfl ?_
    refine c_mpush (m := rest.length) (s := s1) D71 ((DFR.2.2 76 rfl).trans H76) D17 (by omega) (fun h2 B71 B76 BFR => ?_)
    refine wp_go rfl rfl ?_
    refine wp_go rfl rfl ?_
    refine e_put (fs' := [xR 72, xR 73, xR 74, xR 75, xI (s1 4), xI (s1 5), xI (s1 6), xI (s1 7), xI (s1 8), xI (s1 9), xI (s1 10), xL (s1 11), xI (s1 12), xI (s1 13), xI (s1 14), xI (s1 15), xR 76, xI ((rest.length + 1 : Nat) : Int), xI (s1 18), xI 0, xI (s1 20), xI (s1 21), xI (s1 22), xR 77, xR 78, xR 79, xR 80, xR 81, xR 82, xR 83, xI (s1 30), xR 84, xR 85, xR 86, xR 87, xR 88, xR 89, xR 90]) rfl B71 rfl rfl ?_
    refine wp_go rfl rfl ?_
    refine wp_go rfl rfl ?_
    refine wp_cv rfl rfl rfl rfl rfl rfl rfl ?_
    refine c_nextT (i := i + 1) (s := hc_u (hc_u s1 17 ((rest.length + 1 : Nat) : Int)) 19 0) H hn rfl ((DME 4 rfl).trans hTA.1) ((DME 7 rfl).trans hTA.2.1) ((BFR.2.2 75 rfl).trans ((DFR.2.2 75 rfl).trans H75)) (fun h3 s3 C71 CTA CME CFR => ?_)
    refine wp_go rfl rfl ?_
    refine wp_ret rfl rfl ?_
    have m1 : ME mel s s3 := ((((DME.mono (nin_sub rfl)).u (a := 17) rfl).u (a := 19) rfl)).tr (CME.mono (nin_sub rfl)) (fun _ z => z)
    have f1 : Fr mfl h h3 := (((Fr.mono DFR (nin_sub rfl)).tr (Fr.mono BFR (nin_sub rfl)) (fun _ z => z)).wr rfl).tr (Fr.mono CFR (nin_sub rfl)) (fun _ z => z)
    refine k h3 s3 T1 _ ⟨C71, (CFR.2.2 74 rfl).trans ((BFR.2.2 74 rfl).trans D74), (f1.2.2 75 rfl).trans H75, (CFR.2.2 76 rfl).trans B76, CTA, (m1 12 rfl).trans e12, (CME 14 rfl).trans D14, by rw [CME 17 rfl]; rfl, by rw [CME 18 rfl]; show s1 18 = _; rw [D18, e18], (CME 19 rfl).trans rfl, (m1 20 rfl).trans e20, ⟨hu_s, PL_u _ (PL_app ops rest hp) (Nat.le_refl _)⟩⟩ DSA DCD m1 f1
  · skip
    refine wp_go rfl rfl ?_
    refine wp_go rfl rfl ?_
    refine e_ist (L' := [xR 71, xI 0, xI x, xI (mki (ops ++ rest)), xI (-1)]) rfl rfl rfl ?_
    refine wp_go rfl rfl ?_
    refine e_iflt rfl (fun c28 => absurd c28 (by omega)) (fun c28 => ?_)
    refine wp_go rfl rfl ?_
    refine wp_go rfl rfl ?_
    refine wp_call rfl rfl rfl rfl ?_
    refine c_rank ?_
    refine wp_cv rfl rfl rfl H71 rfl rfl rfl ?_
    refine c_settle5 (rest := rest) hrest (ops) w _ s T H71 H74 H76 e12 e14 e17 (by rw [e18]; omega) (by omega) hp (by omega) hall (fun h1 s1 T1 D71 D74 D17 D14 D18 DME DSA DCD DFR => ?_)
    refine wp_go rfl rfl ?_
    refine wp_go rfl rfl ?_
    refine wp_cv rfl rfl rfl D71 rfl rfl rfl ?_
    refine c_mpush (m := rest.length) (s := s1) D71 ((DFR.2.2 76 rfl).trans H76) D17 (by omega) (fun h2 B71 B76 BFR => ?_)
    refine wp_go rfl rfl ?_
    refine wp_go rfl rfl ?_
    refine e_put (fs' := [xR 72, xR 73, xR 74, xR 75, xI (s1 4), xI (s1 5), xI (s1 6), xI (s1 7), xI (s1 8), xI (s1 9), xI (s1 10), xL (s1 11), xI (s1 12), xI (s1 13), xI (s1 14), xI (s1 15), xR 76, xI ((rest.length + 1 : Nat) : Int), xI (s1 18), xI 0, xI (s1 20), xI (s1 21), xI (s1 22), xR 77, xR 78, xR 79, xR 80, xR 81, xR 82, xR 83, xI (s1 30), xR 84, xR 85, xR 86, xR 87, xR 88, xR 89, xR 90]) rfl B71 rfl rfl ?_
    refine wp_go rfl rfl ?_
    refine wp_go rfl rfl ?_
    refine wp_cv rfl rfl rfl rfl rfl rfl rfl ?_
    refine c_nextT (i := i + 1) (s := hc_u (hc_u s1 17 ((rest.length + 1 : Nat) : Int)) 19 0) H hn rfl ((DME 4 rfl).trans hTA.1) ((DME 7 rfl).trans hTA.2.1) ((BFR.2.2 75 rfl).trans ((DFR.2.2 75 rfl).trans H75)) (fun h3 s3 C71 CTA CME CFR => ?_)
    refine wp_go rfl rfl ?_
    refine wp_ret rfl rfl ?_
    have m1 : ME mel s s3 := ((((DME.mono (nin_sub rfl)).u (a := 17) rfl).u (a := 19) rfl)).tr (CME.mono (nin_sub rfl)) (fun _ z => z)
    have f1 : Fr mfl h h3 := (((Fr.mono DFR (nin_sub rfl)).tr (Fr.mono BFR (nin_sub rfl)) (fun _ z => z)).wr rfl).tr (Fr.mono CFR (nin_sub rfl)) (fun _ z => z)
    refine k h3 s3 T1 _ ⟨C71, (CFR.2.2 74 rfl).trans ((BFR.2.2 74 rfl).trans D74), (f1.2.2 75 rfl).trans H75, (CFR.2.2 76 rfl).trans B76, CTA, (m1 12 rfl).trans e12, (CME 14 rfl).trans D14, by rw [CME 17 rfl]; rfl, by rw [CME 18 rfl]; show s1 18 = _; rw [D18, e18], (CME 19 rfl).trans rfl, (m1 20 rfl).trans e20, ⟨hu_s, PL_u _ (PL_app ops rest hp) (Nat.le_refl _)⟩⟩ DSA DCD m1 f1
set_option maxRecDepth 100000 in
theorem c_bcl40 {d : Nat} {h : hc_H} {Q : List hc_V → hc_H → Prop} {B : Nat → Int} {n i w t0 : Nat} {lw q K : Int} {s T f : Nat → Int} {ops ms rest : List Int} (H : BY B) (hn : n ≤ 300) (hKK : tK B n i = K) (M : MST B n h s T f t0 lw i w (ops ++ 40 :: (ms ++ rest)) q 1) (hKc : K = 51) (hall : ∀ z, z ∈ ops → 1 ≤ rkm z) (hm2 : ∀ z, z ∈ ms → z = 2) (hr7 : ∀ z r, rest = z :: r → rkm z < 7) (hb : w + (ops ++ 40 :: (ms ++ rest)).length ≤ i ∧ i ≤ 300 ∧ (ops ++ 40 :: (ms ++ rest)).length ≤ 100 ∧ -1000 ≤ q ∧ q ≤ 1000 ∧ t0 ≤ 2040) (k : ∀ h2 s2 T2, MST B n h2 s2 T2 f t0 lw (i + 1) (w + ops.length + ms.length) rest (q - cnt ops - 1 - (ms.length : Int)) 1 → SAM T T2 (t0 + 75) w (ops.length + ms.length) → CDS T2 (t0 + 75) w ops → CDS T2 (t0 + 75) (w + ops.length) ms → ME mel s s2 → Fr mfl h h2 → Q [xI 1] h2) : hc_wp (d + 5) mX10_behindOne 0 [xR 71, xI 0, none, none, none] [] h Q := by
  obtain ⟨H71, H74, H75, H76, hTA, e12, e14, e17, e18, e19, e20, hp⟩ := M
  have hK : mkd (s 9) (s 11) = K := hTA.2.2.2.1.trans hKK
  have hla : (ops ++ 40 :: (ms ++ rest)).length = ops.length + ((ms ++ rest).length + 1) := by rw [List.length_append, List.length_cons]
  have hlb : (ms ++ rest).length = ms.length + rest.length := List.length_append
  have hmk := mki_c (a := ops) (x := 40) (p := ms ++ rest) (fun z hz => rkm_lt (hall z hz)) (by decide)
  have hp2 : PL f (ms ++ rest) := (PL_app ops _ hp).2
  have hfm : f (ms ++ rest).length = 40 := (PL_app ops _ hp).1
  have hrest : ∀ z r, 40 :: (ms ++ rest) = z :: r → rkm z < 1 := by
    intro z r e
    cases e
    decide
  have hx : bto K (ops ++ 40 :: (ms ++ rest)) = -1 := by
    unfold bto kop
    rw [hmk.1, hmk.2, if_neg (show ¬ (46 ≤ K ∧ K ≤ 49) by omega), if_neg (show ¬ ((ms ++ rest).length : Int) < 0 by omega), if_neg (by decide)]
  have h51 := mks_51 hK
  have h19 := mkw_19 hK
  have hcb := cnt_bd ops
  refine wp_go rfl rfl ?_
  refine wp_go rfl rfl ?_
  refine wp_cv rfl rfl rfl H71 rfl rfl rfl ?_
  refine c_betweenOf hK H71 H76 e17 (by omega) hp ?_
  rw [hx]
  refine e_istn (L' := [xR 71, xI 0, xI (-1), none, none]) rfl rfl rfl ?_
  refine wp_go rfl rfl ?_
  refine wp_cv rfl rfl rfl H71 rfl rfl rfl ?_
  refine c_marker H71 H76 e17 (by omega) hp ?_
  rw [hmk.1]
  refine e_istn (L' := [xR 71, xI 0, xI (-1), xI ((ms ++ rest).length : Int), none]) rfl rfl rfl ?_
  refine wp_go rfl rfl ?_
  refine e_ifge rfl (fun c12 => ?_) (fun c12 => absurd (show (0 : Int) ≤ ((ms ++ rest).length : Int) by omega) c12)
  refine wp_go rfl rfl ?_
  refine e_get rfl H71 rfl rfl ?_
  refine wp_go rfl rfl ?_
  refine e_aldE (p := (ms ++ rest).length) rfl H76 rfl ⟨by omega, by omega⟩ ?_
  rw [hfm]
  refine e_ist (L' := [xR 71, xI 0, xI (-1), xI ((ms ++ rest).length : Int), xI 40]) rfl rfl rfl ?_
  refine wp_go rfl rfl ?_
  refine wp_go rfl rfl ?_
  refine wp_go rfl rfl ?_
  refine e_get rfl H71 rfl rfl ?_
  refine wp_go rfl rfl ?_
  refine e_cne rfl (fun c58 => absurd (h51.2 hKc) c58) (fun c58 => ?_)
  refine wp_go rfl rfl ?_
  refine wp_go rfl rfl ?_
  refine wp_go rfl rfl ?_
  refine wp_go rfl rfl ?_
  refine wp_go rfl rfl ?_
  refine wp_cv rfl rfl rfl H71 rfl rfl rfl ?_
  refine c_settle5 (rest := 40 :: (ms ++ rest)) hrest (ops) w _ s T H71 H74 H76 e12 e14 e17 (by rw [e18]; omega) (by omega) hp (by omega) hall (fun h1 s1 T1 D71 D74 D17 D14 D18 DME DSA DCD DFR => ?_)
  have D71p : h1.2.2 71 = .inr (10, [xR 72, xR 73, xR 74, xR 75, xI (s1 4), xI (s1 5), xI (s1 6), xI (s1 7), xI (s1 8), xI (s1 9), xI (s1 10), xL (s1 11), xI (s1 12), xI (s1 13), xI (s1 14), xI (s1 15), xR 76, xI (((ms ++ rest).length + 1 : Nat) : Int), xI (s1 18), xI (s1 19), xI (s1 20), xI (s1 21), xI (s1 22), xR 77, xR 78, xR 79, xR 80, xR 81, xR 82, xR 83, xI (s1 30), xR 84, xR 85, xR 86, xR 87, xR 88, xR 89, xR 90]) := by rw [← show s1 17 = (((ms ++ rest).length + 1 : Nat) : Int) from D17]; exact D71
  refine wp_go rfl rfl ?_
  refine wp_go rfl rfl ?_
  refine e_get rfl D71p rfl rfl ?_
  refine wp_go rfl rfl ?_
  refine e_isub rfl (by omega) ?_
  rw [show (((ms ++ rest).length + 1 : Nat) : Int) - 1 = ((ms ++ rest).length : Int) by omega]
  refine e_put (fs' := [xR 72, xR 73, xR 74, xR 75, xI (s1 4), xI (s1 5), xI (s1 6), xI (s1 7), xI (s1 8), xI (s1 9), xI (s1 10), xL (s1 11), xI (s1 12), xI (s1 13), xI (s1 14), xI (s1 15), xR 76, xI ((ms ++ rest).length : Int), xI (s1 18), xI (s1 19), xI (s1 20), xI (s1 21), xI (s1 22), xR 77, xR 78, xR 79, xR 80, xR 81, xR 82, xR 83, xI (s1 30), xR 84, xR 85, xR 86, xR 87, xR 88, xR 89, xR 90]) rfl D71p rfl rfl ?_
  refine wp_go rfl rfl ?_
  refine wp_go rfl rfl ?_
  refine e_get rfl rfl rfl rfl ?_
  refine wp_go rfl rfl ?_
  refine e_isub rfl (by rw [D18, e18]; omega) ?_
  refine e_put (fs' := [xR 72, xR 73, xR 74, xR 75, xI (s1 4), xI (s1 5), xI (s1 6), xI (s1 7), xI (s1 8), xI (s1 9), xI (s1 10), xL (s1 11), xI (s1 12), xI (s1 13), xI (s1 14), xI (s1 15), xR 76, xI ((ms ++ rest).length : Int), xI ((s1 18) - 1), xI (s1 19), xI (s1 20), xI (s1 21), xI (s1 22), xR 77, xR 78, xR 79, xR 80, xR 81, xR 82, xR 83, xI (s1 30), xR 84, xR 85, xR 86, xR 87, xR 88, xR 89, xR 90]) rfl rfl rfl rfl ?_
  refine wp_go rfl rfl ?_
  refine wp_go rfl rfl ?_
  refine wp_go rfl rfl ?_
  refine wp_go rfl rfl ?_
  refine wp_cv rfl rfl rfl rfl rfl rfl rfl ?_
  refine c_whole (w := w + ops.length) (s := hc_u (hc_u s1 17 ((ms ++ rest).length : Int)) 18 (s1 18 - 1)) (T := T1) (ops := ms) (rest := rest) hr7 (rk_2 hm2) rfl D74 ((DFR.2.2 76 rfl).trans H76) ((DME 12 rfl).trans e12) D14 rfl (by show -100000 ≤ s1 18 - 1 - (ms.length : Int) ∧ s1 18 - 1 ≤ 100000; rw [D18, e18]; omega) (by omega) hp2 (by omega) (fun h3 s3 T3 G71 G74 G17 G14 G18 G19 GME GSA GCD GFR => ?_)
  refine wp_go rfl rfl ?_
  refine wp_go rfl rfl ?_
  refine wp_cv rfl rfl rfl G71 rfl rfl rfl ?_
  have m0 : ME mel s s3 := (((DME.mono (nin_sub rfl)).u (a := 17) rfl).u (a := 18) rfl).tr (GME.mono (nin_sub rfl)) (fun _ z => z)
  have f0 : Fr mfl h h3 := (((Fr.mono DFR (nin_sub rfl)).wr rfl).wr rfl).tr (Fr.mono GFR (nin_sub rfl)) (fun _ z => z)
  have g7 : s3 7 = s 7 := (GME 7 rfl).trans (DME 7 rfl)
  have g4 : s3 4 = s 4 := (GME 4 rfl).trans (DME 4 rfl)
  refine c_nextT (i := i + 1) (s := s3) H hn G71 (g4.trans hTA.1) (g7.trans hTA.2.1) ((f0.2.2 75 rfl).trans H75) (fun h4 s4 C71 CTA CME CFR => ?_)
  refine wp_go rfl rfl ?_
  refine wp_ret rfl rfl ?_
  have hcn := cnt_2 ms hm2
  have m1 : ME mel s s4 := m0.tr (CME.mono (nin_sub rfl)) (fun _ z => z)
  have f1 : Fr mfl h h4 := f0.tr (Fr.mono CFR (nin_sub rfl)) (fun _ z => z)
  have g18 : s3 18 = q - cnt ops - 1 - (ms.length : Int) := by rw [G18, hcn]; show s1 18 - 1 - _ = _; rw [D18, e18]
  refine k h4 s4 T3 ⟨C71, (CFR.2.2 74 rfl).trans G74, (f1.2.2 75 rfl).trans H75, (CFR.2.2 76 rfl).trans ((GFR.2.2 76 rfl).trans ((DFR.2.2 76 rfl).trans H76)), CTA, (m1 12 rfl).trans e12, (CME 14 rfl).trans G14, (CME 17 rfl).trans G17, (CME 18 rfl).trans g18, (CME 19 rfl).trans G19, (m1 20 rfl).trans e20, PL_app ms rest hp2⟩ ?_ ?_ ?_ m1 f1
  · intro a ha
    exact (GSA a (by omega)).trans (DSA a (by omega))
  · refine CDS_eq ops w DCD (fun a h1 h2 => ?_)
    exact GSA a (by omega)
  · exact GCD
set_option maxRecDepth 100000 in
theorem c_bcl43 {d : Nat} {h : hc_H} {Q : List hc_V → hc_H → Prop} {B : Nat → Int} {n i w t0 : Nat} {lw q K : Int} {s T f : Nat → Int} {ops ms rest : List Int} (H : BY B) (hn : n ≤ 300) (hKK : tK B n i = K) (M : MST B n h s T f t0 lw i w (ops ++ 43 :: (ms ++ rest)) q 1) (hKc : K = 19) (hall : ∀ z, z ∈ ops → 1 ≤ rkm z) (hm2 : ∀ z, z ∈ ms → z = 2) (hr7 : ∀ z r, rest = z :: r → rkm z < 7) (hb : w + (ops ++ 43 :: (ms ++ rest)).length ≤ i ∧ i ≤ 300 ∧ (ops ++ 43 :: (ms ++ rest)).length ≤ 100 ∧ -1000 ≤ q ∧ q ≤ 1000 ∧ t0 ≤ 2040) (k : ∀ h2 s2 T2, MST B n h2 s2 T2 f t0 lw (i + 1) (w + ops.length + 1 + ms.length) rest (q - cnt ops - 1 - (ms.length : Int)) 1 → SAM T T2 (t0 + 75) w (ops.length + 1 + ms.length) → CDS T2 (t0 + 75) w ops → (T2 (t0 + 75 + 2 * (w + ops.length)) = 23 ∧ T2 (t0 + 75 + 2 * (w + ops.length) + 1) = 0) → CDS T2 (t0 + 75) (w + ops.length + 1) ms → ME mel s s2 → Fr mfl h h2 → Q [xI 1] h2) : hc_wp (d + 5) mX10_behindOne 0 [xR 71, xI 0, none, none, none] [] h Q := by
  obtain ⟨H71, H74, H75, H76, hTA, e12, e14, e17, e18, e19, e20, hp⟩ := M
  have hK : mkd (s 9) (s 11) = K := hTA.2.2.2.1.trans hKK
  have hla : (ops ++ 43 :: (ms ++ rest)).length = ops.length + ((ms ++ rest).length + 1) := by rw [List.length_append, List.length_cons]
  have hlb : (ms ++ rest).length = ms.length + rest.length := List.length_append
  have hmk := mki_c (a := ops) (x := 43) (p := ms ++ rest) (fun z hz => rkm_lt (hall z hz)) (by decide)
  have hp2 : PL f (ms ++ rest) := (PL_app ops _ hp).2
  have hfm : f (ms ++ rest).length = 43 := (PL_app ops _ hp).1
  have hrest : ∀ z r, 43 :: (ms ++ rest) = z :: r → rkm z < 1 := by
    intro z r e
    cases e
    decide
  have hx : bto K (ops ++ 43 :: (ms ++ rest)) = -1 := by
    unfold bto kop
    rw [hmk.1, hmk.2, if_neg (show ¬ (46 ≤ K ∧ K ≤ 49) by omega), if_neg (show ¬ ((ms ++ rest).length : Int) < 0 by omega), if_neg (by decide)]
  have h51 := mks_51 hK
  have h19 := mkw_19 hK
  have hcb := cnt_bd ops
  refine wp_go rfl rfl ?_
  refine wp_go rfl rfl ?_
  refine wp_cv rfl rfl rfl H71 rfl rfl rfl ?_
  refine c_betweenOf hK H71 H76 e17 (by omega) hp ?_
  rw [hx]
  refine e_istn (L' := [xR 71, xI 0, xI (-1), none, none]) rfl rfl rfl ?_
  refine wp_go rfl rfl ?_
  refine wp_cv rfl rfl rfl H71 rfl rfl rfl ?_
  refine c_marker H71 H76 e17 (by omega) hp ?_
  rw [hmk.1]
  refine e_istn (L' := [xR 71, xI 0, xI (-1), xI ((ms ++ rest).length : Int), none]) rfl rfl rfl ?_
  refine wp_go rfl rfl ?_
  refine e_ifge rfl (fun c12 => ?_) (fun c12 => absurd (show (0 : Int) ≤ ((ms ++ rest).length : Int) by omega) c12)
  refine wp_go rfl rfl ?_
  refine e_get rfl H71 rfl rfl ?_
  refine wp_go rfl rfl ?_
  refine e_aldE (p := (ms ++ rest).length) rfl H76 rfl ⟨by omega, by omega⟩ ?_
  rw [hfm]
  refine e_ist (L' := [xR 71, xI 0, xI (-1), xI ((ms ++ rest).length : Int), xI 43]) rfl rfl rfl ?_
  refine wp_go rfl rfl ?_
  refine wp_go rfl rfl ?_
  refine wp_go rfl rfl ?_
  refine e_get rfl H71 rfl rfl ?_
  refine wp_go rfl rfl ?_
  refine e_cne rfl (fun c58 => ?_) (fun c58 => absurd (h51.1 c58) (by omega))
  refine wp_go rfl rfl ?_
  refine wp_go rfl rfl ?_
  refine wp_go rfl rfl ?_
  refine wp_go rfl rfl ?_
  refine wp_call rfl rfl rfl rfl ?_
  refine c_w3 (r := 6647396) (by decide +kernel) ?_
  refine wp_cv rfl rfl rfl H71 rfl rfl rfl ?_
  refine c_isWord H71 (fun q75 => ?_) (fun q75 => absurd (h19.2 hKc) q75)
  refine wp_go rfl rfl ?_
  refine wp_go rfl rfl ?_
  refine wp_go rfl rfl ?_
  refine wp_go rfl rfl ?_
  refine wp_go rfl rfl ?_
  refine wp_go rfl rfl ?_
  refine wp_cv rfl rfl rfl H71 rfl rfl rfl ?_
  refine c_settle5 (rest := 43 :: (ms ++ rest)) hrest (ops) w _ s T H71 H74 H76 e12 e14 e17 (by rw [e18]; omega) (by omega) hp (by omega) hall (fun h1 s1 T1 D71 D74 D17 D14 D18 DME DSA DCD DFR => ?_)
  have D71p : h1.2.2 71 = .inr (10, [xR 72, xR 73, xR 74, xR 75, xI (s1 4), xI (s1 5), xI (s1 6), xI (s1 7), xI (s1 8), xI (s1 9), xI (s1 10), xL (s1 11), xI (s1 12), xI (s1 13), xI (s1 14), xI (s1 15), xR 76, xI (((ms ++ rest).length + 1 : Nat) : Int), xI (s1 18), xI (s1 19), xI (s1 20), xI (s1 21), xI (s1 22), xR 77, xR 78, xR 79, xR 80, xR 81, xR 82, xR 83, xI (s1 30), xR 84, xR 85, xR 86, xR 87, xR 88, xR 89, xR 90]) := by rw [← show s1 17 = (((ms ++ rest).length + 1 : Nat) : Int) from D17]; exact D71
  refine wp_go rfl rfl ?_
  refine wp_go rfl rfl ?_
  refine e_get rfl D71p rfl rfl ?_
  refine wp_go rfl rfl ?_
  refine e_isub rfl (by omega) ?_
  rw [show (((ms ++ rest).length + 1 : Nat) : Int) - 1 = ((ms ++ rest).length : Int) by omega]
  refine e_put (fs' := [xR 72, xR 73, xR 74, xR 75, xI (s1 4), xI (s1 5), xI (s1 6), xI (s1 7), xI (s1 8), xI (s1 9), xI (s1 10), xL (s1 11), xI (s1 12), xI (s1 13), xI (s1 14), xI (s1 15), xR 76, xI ((ms ++ rest).length : Int), xI (s1 18), xI (s1 19), xI (s1 20), xI (s1 21), xI (s1 22), xR 77, xR 78, xR 79, xR 80, xR 81, xR 82, xR 83, xI (s1 30), xR 84, xR 85, xR 86, xR 87, xR 88, xR 89, xR 90]) rfl D71p rfl rfl ?_
  refine wp_go rfl rfl ?_
  refine wp_go rfl rfl ?_
  refine e_get rfl rfl rfl rfl ?_
  refine wp_go rfl rfl ?_
  refine e_isub rfl (by rw [D18, e18]; omega) ?_
  refine e_put (fs' := [xR 72, xR 73, xR 74, xR 75, xI (s1 4), xI (s1 5), xI (s1 6), xI (s1 7), xI (s1 8), xI (s1 9), xI (s1 10), xL (s1 11), xI (s1 12), xI (s1 13), xI (s1 14), xI (s1 15), xR 76, xI ((ms ++ rest).length : Int), xI ((s1 18) - 1), xI (s1 19), xI (s1 20), xI (s1 21), xI (s1 22), xR 77, xR 78, xR 79, xR 80, xR 81, xR 82, xR 83, xI (s1 30), xR 84, xR 85, xR 86, xR 87, xR 88, xR 89, xR 90]) rfl rfl rfl rfl ?_
  refine wp_go rfl rfl ?_
  refine wp_go rfl rfl ?_
  refine wp_go rfl rfl ?_
  refine wp_go rfl rfl ?_
  refine wp_go rfl rfl ?_
  refine wp_go rfl rfl ?_
  refine wp_cv rfl rfl rfl rfl rfl rfl rfl ?_
  refine c_emit (s := hc_u (hc_u s1 17 ((ms ++ rest).length : Int)) 18 (s1 18 - 1)) (w := w + ops.length) rfl D74 ((DME 12 rfl).trans e12) D14 (by omega) (fun h2 B71 B74 BFR => ?_)
  refine wp_go rfl rfl ?_
  refine wp_cv rfl rfl rfl B71 rfl rfl rfl ?_
  refine c_whole (w := w + ops.length + 1) (T := em T1 (t0 + 75) (w + ops.length) 23 0) (ops := ms) (rest := rest) hr7 (rk_2 hm2) B71 B74 ((BFR.2.2 76 rfl).trans ((DFR.2.2 76 rfl).trans H76)) rfl rfl rfl (by show -100000 ≤ s1 18 - 1 - (ms.length : Int) ∧ s1 18 - 1 ≤ 100000; rw [D18, e18]; omega) (by omega) hp2 (by omega) (fun h3 s3 T3 G71 G74 G17 G14 G18 G19 GME GSA GCD GFR => ?_)
  refine wp_go rfl rfl ?_
  refine wp_go rfl rfl ?_
  refine wp_cv rfl rfl rfl G71 rfl rfl rfl ?_
  have m0 : ME mel s s3 := ((((DME.mono (nin_sub rfl)).u (a := 17) rfl).u (a := 18) rfl).tr (meE ((DME 12 rfl).trans e12)) (fun _ z => z)).tr (GME.mono (nin_sub rfl)) (fun _ z => z)
  have f0 : Fr mfl h h3 := ((((Fr.mono DFR (nin_sub rfl)).wr rfl).wr rfl).tr (Fr.mono BFR (nin_sub rfl)) (fun _ z => z)).tr (Fr.mono GFR (nin_sub rfl)) (fun _ z => z)
  have g7 : s3 7 = s 7 := (GME 7 rfl).trans (DME 7 rfl)
  have g4 : s3 4 = s 4 := (GME 4 rfl).trans (DME 4 rfl)
  refine c_nextT (i := i + 1) (s := s3) H hn G71 (g4.trans hTA.1) (g7.trans hTA.2.1) ((f0.2.2 75 rfl).trans H75) (fun h4 s4 C71 CTA CME CFR => ?_)
  refine wp_go rfl rfl ?_
  refine wp_ret rfl rfl ?_
  have hcn := cnt_2 ms hm2
  have m1 : ME mel s s4 := m0.tr (CME.mono (nin_sub rfl)) (fun _ z => z)
  have f1 : Fr mfl h h4 := f0.tr (Fr.mono CFR (nin_sub rfl)) (fun _ z => z)
  have g18 : s3 18 = q - cnt ops - 1 - (ms.length : Int) := by rw [G18, hcn]; show s1 18 - 1 - _ = _; rw [D18, e18]
  refine k h4 s4 T3 ⟨C71, (CFR.2.2 74 rfl).trans G74, (f1.2.2 75 rfl).trans H75, (CFR.2.2 76 rfl).trans ((GFR.2.2 76 rfl).trans ((BFR.2.2 76 rfl).trans ((DFR.2.2 76 rfl).trans H76))), CTA, (m1 12 rfl).trans e12, (CME 14 rfl).trans G14, (CME 17 rfl).trans G17, (CME 18 rfl).trans g18, (CME 19 rfl).trans G19, (m1 20 rfl).trans e20, PL_app ms rest hp2⟩ ?_ ?_ ?_ ?_ m1 f1
  · intro a ha
    exact (GSA a (by omega)).trans ((em_ne (by omega)).trans (DSA a (by omega)))
  · refine CDS_eq ops w DCD (fun a h1 h2 => ?_)
    exact (GSA a (by omega)).trans (em_ne (by omega))
  · exact ⟨(GSA _ (by omega)).trans em_at.1, (GSA _ (by omega)).trans em_at.2⟩
  · exact GCD
set_option maxRecDepth 100000 in
theorem c_bmi41 {d : Nat} {h : hc_H} {Q : List hc_V → hc_H → Prop} {B : Nat → Int} {n i w t0 : Nat} {lw q K : Int} {s T f : Nat → Int} {ops p : List Int} (H : BY B) (hn : n ≤ 300) (hKK : tK B n i = K) (M : MST B n h s T f t0 lw i w (ops ++ 41 :: p) q 1) (hKc : K = 53) (hcq : cmq (ops ++ 41 :: p) = true) (hall : ∀ z, z ∈ ops → 1 ≤ rkm z) (hb : w + (ops ++ 41 :: p).length ≤ i ∧ i ≤ 300 ∧ (ops ++ 41 :: p).length ≤ 100 ∧ -1000 ≤ q ∧ q ≤ 1000 ∧ t0 ≤ 2040) (k : ∀ h2 s2 T2 f2, MST B n h2 s2 T2 f2 t0 lw (i + 1) (w + ops.length) (42 :: p) (q - cnt ops) 0 → SAM T T2 (t0 + 75) w ops.length → CDS T2 (t0 + 75) w ops → ME mel s s2 → Fr mfl h h2 → Q [xI 1] h2) : hc_wp (d + 5) mX10_behindOne 0 [xR 71, xI 0, none, none, none] [] h Q := by
  obtain ⟨H71, H74, H75, H76, hTA, e12, e14, e17, e18, e19, e20, hp⟩ := M
  have hK : mkd (s 9) (s 11) = K := hTA.2.2.2.1.trans hKK
  have hla : (ops ++ 41 :: p).length = ops.length + (p.length + 1) := by rw [List.length_append, List.length_cons]
  have hmk := mki_c (a := ops) (x := 41) (p := p) (fun z hz => rkm_lt (hall z hz)) (by decide)
  have hp2 : PL f p := (PL_app ops _ hp).2
  have hfm : f p.length = 41 := (PL_app ops _ hp).1
  have hrest : ∀ z r, 41 :: p = z :: r → rkm z < 1 := by
    intro z r e
    cases e
    decide
  have hx : bto K (ops ++ 41 :: p) = -1 := by
    unfold bto kop
    rw [hmk.1, hmk.2, if_neg (show ¬ (46 ≤ K ∧ K ≤ 49) by omega), if_neg (show ¬ (p.length : Int) < 0 by omega)]
    rw [if_pos rfl, if_pos hcq, if_neg (by omega), if_neg (by omega)]
  have h51 := mks_51 hK
  have h19 := mkw_19 hK
  have h53 := mks_53 hK
  have h54 := mks_54 hK
  have hcb := cnt_bd ops
  refine wp_go rfl rfl ?_
  refine wp_go rfl rfl ?_
  refine wp_cv rfl rfl rfl H71 rfl rfl rfl ?_
  refine c_betweenOf hK H71 H76 e17 (by omega) hp ?_
  rw [hx]
  refine e_istn (L' := [xR 71, xI 0, xI (-1), none, none]) rfl rfl rfl ?_
  refine wp_go rfl rfl ?_
  refine wp_cv rfl rfl rfl H71 rfl rfl rfl ?_
  refine c_marker H71 H76 e17 (by omega) hp ?_
  rw [hmk.1]
  refine e_istn (L' := [xR 71, xI 0, xI (-1), xI (p.length : Int), none]) rfl rfl rfl ?_
  refine wp_go rfl rfl ?_
  refine e_ifge rfl (fun c12 => ?_) (fun c12 => absurd (show (0 : Int) ≤ (p.length : Int) by omega) c12)
  refine wp_go rfl rfl ?_
  refine e_get rfl H71 rfl rfl ?_
  refine wp_go rfl rfl ?_
  refine e_aldE (p := p.length) rfl H76 rfl ⟨by omega, by omega⟩ ?_
  rw [hfm]
  refine e_ist (L' := [xR 71, xI 0, xI (-1), xI (p.length : Int), xI 41]) rfl rfl rfl ?_
  refine wp_go rfl rfl ?_
  refine wp_go rfl rfl ?_
  refine wp_go rfl rfl ?_
  refine e_get rfl H71 rfl rfl ?_
  refine wp_go rfl rfl ?_
  refine e_cne rfl (fun c58 => ?_) (fun c58 => absurd (h51.1 c58) (by omega))
  refine wp_go rfl rfl ?_
  refine wp_go rfl rfl ?_
  refine wp_go rfl rfl ?_
  refine wp_go rfl rfl ?_
  refine wp_call rfl rfl rfl rfl ?_
  refine c_w3 (r := 6647396) (by decide +kernel) ?_
  refine wp_cv rfl rfl rfl H71 rfl rfl rfl ?_
  refine c_isWord H71 (fun q75 => absurd (h19.1 q75) (by omega)) (fun q75 => ?_)
  refine wp_go rfl rfl ?_
  refine wp_go rfl rfl ?_
  refine e_get rfl H71 rfl rfl ?_
  refine wp_go rfl rfl ?_
  refine e_cne rfl (fun c143 => absurd (h53.2 hKc) c143) (fun c143 => ?_)
  refine wp_go rfl rfl ?_
  refine wp_go rfl rfl ?_
  refine wp_go rfl rfl ?_
  refine wp_go rfl rfl ?_
  refine wp_cv rfl rfl rfl H71 rfl rfl rfl ?_
  refine c_cmq H71 H76 e17 (by omega) hp (fun q154 => ?_) (fun q154 => absurd (hcq.symm.trans q154) (by decide))
  refine wp_go rfl rfl ?_
  refine wp_go rfl rfl ?_
  refine wp_go rfl rfl ?_
  refine wp_cv rfl rfl rfl H71 rfl rfl rfl ?_
  refine c_settle5 (rest := 41 :: p) hrest (ops) w _ s T H71 H74 H76 e12 e14 e17 (by rw [e18]; omega) (by omega) hp (by omega) hall (fun h1 s1 T1 D71 D74 D17 D14 D18 DME DSA DCD DFR => ?_)
  refine wp_go rfl rfl ?_
  refine e_get rfl D71 rfl rfl ?_
  refine wp_go rfl rfl ?_
  refine wp_go rfl rfl ?_
  refine wp_go rfl rfl ?_
  refine e_iadd rfl (by omega) ?_
  refine e_iastE (p := p.length) rfl ((DFR.2.2 76 rfl).trans H76) ⟨by omega, by omega⟩ ?_
  refine wp_go rfl rfl ?_
  refine wp_go rfl rfl ?_
  refine e_put (fs' := [xR 72, xR 73, xR 74, xR 75, xI (s1 4), xI (s1 5), xI (s1 6), xI (s1 7), xI (s1 8), xI (s1 9), xI (s1 10), xL (s1 11), xI (s1 12), xI (s1 13), xI (s1 14), xI (s1 15), xR 76, xI (s1 17), xI (s1 18), xI 0, xI (s1 20), xI (s1 21), xI (s1 22), xR 77, xR 78, xR 79, xR 80, xR 81, xR 82, xR 83, xI (s1 30), xR 84, xR 85, xR 86, xR 87, xR 88, xR 89, xR 90]) rfl D71 rfl rfl ?_
  refine wp_go rfl rfl ?_
  refine wp_go rfl rfl ?_
  refine wp_cv rfl rfl rfl rfl rfl rfl rfl ?_
  refine c_nextT (i := i + 1) (s := hc_u s1 19 0) H hn rfl ((DME 4 rfl).trans hTA.1) ((DME 7 rfl).trans hTA.2.1) ((DFR.2.2 75 rfl).trans H75) (fun h4 s4 C71 CTA CME CFR => ?_)
  refine wp_go rfl rfl ?_
  refine wp_ret rfl rfl ?_
  have m1 : ME mel s s4 := (((DME.mono (nin_sub rfl)).u (a := 19) rfl)).tr (CME.mono (nin_sub rfl)) (fun _ z => z)
  have f1 : Fr mfl h h4 := (((Fr.mono DFR (nin_sub rfl)).wr rfl).wr rfl).tr (Fr.mono CFR (nin_sub rfl)) (fun _ z => z)
  exact k h4 s4 T1 _ ⟨C71, (CFR.2.2 74 rfl).trans D74, (f1.2.2 75 rfl).trans H75, (CFR.2.2 76 rfl).trans rfl, CTA, (m1 12 rfl).trans e12, (CME 14 rfl).trans D14, (CME 17 rfl).trans D17, by rw [CME 18 rfl]; show s1 18 = _; rw [D18, e18], (CME 19 rfl).trans rfl, (m1 20 rfl).trans e20, ⟨hu_s, PL_u _ hp2 (Nat.le_refl _)⟩⟩ DSA DCD m1 f1
set_option maxRecDepth 100000 in
theorem c_bmi42 {d : Nat} {h : hc_H} {Q : List hc_V → hc_H → Prop} {B : Nat → Int} {n i w t0 : Nat} {lw q K : Int} {s T f : Nat → Int} {ops p : List Int} (H : BY B) (hn : n ≤ 300) (hKK : tK B n i = K) (M : MST B n h s T f t0 lw i w (ops ++ 42 :: p) q 1) (hKc : K = 54) (hall : ∀ z, z ∈ ops → 1 ≤ rkm z) (hb : w + (ops ++ 42 :: p).length ≤ i ∧ i ≤ 300 ∧ (ops ++ 42 :: p).length ≤ 100 ∧ -1000 ≤ q ∧ q ≤ 1000 ∧ t0 ≤ 2040) (k : ∀ h2 s2 T2 f2, MST B n h2 s2 T2 f2 t0 lw (i + 1) (w + ops.length) (43 :: p) (q - cnt ops) 0 → SAM T T2 (t0 + 75) w ops.length → CDS T2 (t0 + 75) w ops → ME mel s s2 → Fr mfl h h2 → Q [xI 1] h2) : hc_wp (d + 5) mX10_behindOne 0 [xR 71, xI 0, none, none, none] [] h Q := by
  obtain ⟨H71, H74, H75, H76, hTA, e12, e14, e17, e18, e19, e20, hp⟩ := M
  have hK : mkd (s 9) (s 11) = K := hTA.2.2.2.1.trans hKK
  have hla : (ops ++ 42 :: p).length = ops.length + (p.length + 1) := by rw [List.length_append, List.length_cons]
  have hmk := mki_c (a := ops) (x := 42) (p := p) (fun z hz => rkm_lt (hall z hz)) (by decide)
  have hp2 : PL f p := (PL_app ops _ hp).2
  have hfm : f p.length = 42 := (PL_app ops _ hp).1
  have hrest : ∀ z r, 42 :: p = z :: r → rkm z < 1 := by
    intro z r e
    cases e
    decide
  have hx : bto K (ops ++ 42 :: p) = -1 := by
    unfold bto kop
    rw [hmk.1, hmk.2, if_neg (show ¬ (46 ≤ K ∧ K ≤ 49) by omega), if_neg (show ¬ (p.length : Int) < 0 by omega)]
    rw [if_neg (by decide)]
  have h51 := mks_51 hK
  have h19 := mkw_19 hK
  have h53 := mks_53 hK
  have h54 := mks_54 hK
  have hcb := cnt_bd ops
  refine wp_go rfl rfl ?_
  refine wp_go rfl rfl ?_
  refine wp_cv rfl rfl rfl H71 rfl rfl rfl ?_
  refine c_betweenOf hK H71 H76 e17 (by omega) hp ?_
  rw [hx]
  refine e_istn (L' := [xR 71, xI 0, xI (-1), none, none]) rfl rfl rfl ?_
  refine wp_go rfl rfl ?_
  refine wp_cv rfl rfl rfl H71 rfl rfl rfl ?_
  refine c_marker H71 H76 e17 (by omega) hp ?_
  rw [hmk.1]
  refine e_istn (L' := [xR 71, xI 0, xI (-1), xI (p.length : Int), none]) rfl rfl rfl ?_
  refine wp_go rfl rfl ?_
  refine e_ifge rfl (fun c12 => ?_) (fun c12 => absurd (show (0 : Int) ≤ (p.length : Int) by omega) c12)
  refine wp_go rfl rfl ?_
  refine e_get rfl H71 rfl rfl ?_
  refine wp_go rfl rfl ?_
  refine e_aldE (p := p.length) rfl H76 rfl ⟨by omega, by omega⟩ ?_
  rw [hfm]
  refine e_ist (L' := [xR 71, xI 0, xI (-1), xI (p.length : Int), xI 42]) rfl rfl rfl ?_
  refine wp_go rfl rfl ?_
  refine wp_go rfl rfl ?_
  refine wp_go rfl rfl ?_
  refine e_get rfl H71 rfl rfl ?_
  refine wp_go rfl rfl ?_
  refine e_cne rfl (fun c58 => ?_) (fun c58 => absurd (h51.1 c58) (by omega))
  refine wp_go rfl rfl ?_
  refine wp_go rfl rfl ?_
  refine wp_go rfl rfl ?_
  refine wp_go rfl rfl ?_
  refine wp_call rfl rfl rfl rfl ?_
  refine c_w3 (r := 6647396) (by decide +kernel) ?_
  refine wp_cv rfl rfl rfl H71 rfl rfl rfl ?_
  refine c_isWord H71 (fun q75 => absurd (h19.1 q75) (by omega)) (fun q75 => ?_)
  refine wp_go rfl rfl ?_
  refine wp_go rfl rfl ?_
  refine e_get rfl H71 rfl rfl ?_
  refine wp_go rfl rfl ?_
  refine e_cne rfl (fun c143 => ?_) (fun c143 => absurd (h53.1 c143) (by omega))
  refine wp_go rfl rfl ?_
  refine e_get rfl H71 rfl rfl ?_
  refine wp_go rfl rfl ?_
  refine e_cne rfl (fun c166 => absurd (h54.2 hKc) c166) (fun c166 => ?_)
  refine wp_go rfl rfl ?_
  refine wp_go rfl rfl ?_
  refine wp_go rfl rfl ?_
  refine wp_go rfl rfl ?_
  refine wp_go rfl rfl ?_
  refine wp_cv rfl rfl rfl H71 rfl rfl rfl ?_
  refine c_settle5 (rest := 42 :: p) hrest (ops) w _ s T H71 H74 H76 e12 e14 e17 (by rw [e18]; omega) (by omega) hp (by omega) hall (fun h1 s1 T1 D71 D74 D17 D14 D18 DME DSA DCD DFR => ?_)
  refine wp_go rfl rfl ?_
  refine e_get rfl D71 rfl rfl ?_
  refine wp_go rfl rfl ?_
  refine wp_go rfl rfl ?_
  refine wp_go rfl rfl ?_
  refine e_iadd rfl (by omega) ?_
  refine e_iastE (p := p.length) rfl ((DFR.2.2 76 rfl).trans H76) ⟨by omega, by omega⟩ ?_
  refine wp_go rfl rfl ?_
  refine wp_go rfl rfl ?_
  refine e_put (fs' := [xR 72, xR 73, xR 74, xR 75, xI (s1 4), xI (s1 5), xI (s1 6), xI (s1 7), xI (s1 8), xI (s1 9), xI (s1 10), xL (s1 11), xI (s1 12), xI (s1 13), xI (s1 14), xI (s1 15), xR 76, xI (s1 17), xI (s1 18), xI 0, xI (s1 20), xI (s1 21), xI (s1 22), xR 77, xR 78, xR 79, xR 80, xR 81, xR 82, xR 83, xI (s1 30), xR 84, xR 85, xR 86, xR 87, xR 88, xR 89, xR 90]) rfl D71 rfl rfl ?_
  refine wp_go rfl rfl ?_
  refine wp_go rfl rfl ?_
  refine wp_cv rfl rfl rfl rfl rfl rfl rfl ?_
  refine c_nextT (i := i + 1) (s := hc_u s1 19 0) H hn rfl ((DME 4 rfl).trans hTA.1) ((DME 7 rfl).trans hTA.2.1) ((DFR.2.2 75 rfl).trans H75) (fun h4 s4 C71 CTA CME CFR => ?_)
  refine wp_go rfl rfl ?_
  refine wp_ret rfl rfl ?_
  have m1 : ME mel s s4 := (((DME.mono (nin_sub rfl)).u (a := 19) rfl)).tr (CME.mono (nin_sub rfl)) (fun _ z => z)
  have f1 : Fr mfl h h4 := (((Fr.mono DFR (nin_sub rfl)).wr rfl).wr rfl).tr (Fr.mono CFR (nin_sub rfl)) (fun _ z => z)
  exact k h4 s4 T1 _ ⟨C71, (CFR.2.2 74 rfl).trans D74, (f1.2.2 75 rfl).trans H75, (CFR.2.2 76 rfl).trans rfl, CTA, (m1 12 rfl).trans e12, (CME 14 rfl).trans D14, (CME 17 rfl).trans D17, by rw [CME 18 rfl]; show s1 18 = _; rw [D18, e18], (CME 19 rfl).trans rfl, (m1 20 rfl).trans e20, ⟨hu_s, PL_u _ hp2 (Nat.le_refl _)⟩⟩ DSA DCD m1 f1
set_option maxRecDepth 100000 in
theorem c_bno {d : Nat} {h : hc_H} {Q : List hc_V → hc_H → Prop} {B : Nat → Int} {n i w t0 : Nat} {lw q K : Int} {s T f : Nat → Int} {ps : List Int} (hKK : tK B n i = K) (M : MST B n h s T f t0 lw i w ps q 1) (hx : bto K ps = -1) (n1 : ¬ (K = 51 ∧ mkk ps = 40)) (n2 : ¬ (K = 19 ∧ mkk ps = 43)) (n3 : ¬ (K = 53 ∧ mkk ps = 41 ∧ cmq ps = true)) (n4 : ¬ (K = 54 ∧ mkk ps = 42)) (hb : ps.length ≤ 100) (k : Q [xI 0] h) : hc_wp (d + 5) mX10_behindOne 0 [xR 71, xI 0, none, none, none] [] h Q := by
  obtain ⟨H71, H74, H75, H76, hTA, e12, e14, e17, e18, e19, e20, hp⟩ := M
  have hK : mkd (s 9) (s 11) = K := hTA.2.2.2.1.trans hKK
  have h51 := mks_51 hK
  have h19 := mkw_19 hK
  have h53 := mks_53 hK
  have h54 := mks_54 hK
  refine wp_go rfl rfl ?_
  refine wp_go rfl rfl ?_
  refine wp_cv rfl rfl rfl H71 rfl rfl rfl ?_
  refine c_betweenOf hK H71 H76 e17 (by omega) hp ?_
  rw [hx]
  refine e_istn (L' := [xR 71, xI 0, xI (-1), none, none]) rfl rfl rfl ?_
  refine wp_go rfl rfl ?_
  refine wp_cv rfl rfl rfl H71 rfl rfl rfl ?_
  refine c_marker H71 H76 e17 (by omega) hp ?_
  have hmb := mki_bd ps
  refine e_istn (L' := [xR 71, xI 0, xI (-1), xI (mki ps), none]) rfl rfl rfl ?_
  refine wp_go rfl rfl ?_
  refine e_ifge rfl (fun c12 => ?_) (fun c12 => ?_)
  · skip
    refine wp_go rfl rfl ?_
    refine e_get rfl H71 rfl rfl ?_
    refine wp_go rfl rfl ?_
    refine e_aldE (p := (mki ps).toNat) rfl H76 rfl ⟨by omega, by omega⟩ ?_
    rw [(PL_mk ps hp (by omega)).1]
    refine e_ist (L' := [xR 71, xI 0, xI (-1), xI (mki ps), xI (mkk ps)]) rfl rfl rfl ?_
    refine wp_go rfl rfl ?_
    refine wp_go rfl rfl ?_
    refine wp_go rfl rfl ?_
    refine e_get rfl H71 rfl rfl ?_
    refine wp_go rfl rfl ?_
    refine e_cne rfl (fun c58 => ?_) (fun c58 => ?_)
    · skip
      refine wp_go rfl rfl ?_
      refine wp_go rfl rfl ?_
      refine wp_go rfl rfl ?_
      refine wp_go rfl rfl ?_
      refine wp_call rfl rfl rfl rfl ?_
      refine c_w3 (r := 6647396) (by decide +kernel) ?_
      refine wp_cv rfl rfl rfl H71 rfl rfl rfl ?_
      refine c_isWord H71 (fun q78 => ?_) (fun q78 => ?_)
      · skip
        refine wp_go rfl rfl ?_
        refine wp_go rfl rfl ?_
        refine wp_go rfl rfl ?_
        refine e_cne rfl (fun c88 => ?_) (fun c88 => ?_)
        · skip
          refine wp_go rfl rfl ?_
          refine e_get rfl H71 rfl rfl ?_
          refine wp_go rfl rfl ?_
          refine e_cne rfl (fun c143 => ?_) (fun c143 => ?_)
          · skip
            refine wp_go rfl rfl ?_
            refine e_get rfl H71 rfl rfl ?_
            refine wp_go rfl rfl ?_
            refine e_cne rfl (fun c166 => ?_) (fun c166 => ?_)
            · skip
              refine wp_go rfl rfl ?_
              refine wp_ret rfl rfl ?_
              exact k
            · skip
              refine wp_go rfl rfl ?_
              refine wp_go rfl rfl ?_
              refine e_cne rfl (fun c173 => ?_) (fun c173 => ?_)
              · skip
                refine wp_go rfl rfl ?_
                refine wp_ret rfl rfl ?_
                exact k
              · skip
                exact absurd ⟨h54.1 c166, c173⟩ n4
          · skip
            refine wp_go rfl rfl ?_
            refine wp_go rfl rfl ?_
            refine e_cne rfl (fun c150 => ?_) (fun c150 => ?_)
            · skip
              refine wp_go rfl rfl ?_
              refine e_get rfl H71 rfl rfl ?_
              refine wp_go rfl rfl ?_
              refine e_cne rfl (fun c166 => ?_) (fun c166 => ?_)
              · skip
                refine wp_go rfl rfl ?_
                refine wp_ret rfl rfl ?_
                exact k
              · skip
                refine wp_go rfl rfl ?_
                refine wp_go rfl rfl ?_
                refine e_cne rfl (fun c173 => ?_) (fun c173 => ?_)
                · skip
                  refine wp_go rfl rfl ?_
                  refine wp_ret rfl rfl ?_
                  exact k
                · skip
                  exact absurd ⟨h54.1 c166, c173⟩ n4
            · skip
              refine wp_go rfl rfl ?_
              refine wp_cv rfl rfl rfl H71 rfl rfl rfl ?_
              refine c_cmq H71 H76 e17 (by omega) hp (fun q154 => ?_) (fun q154 => ?_)
              · skip
                refine wp_go rfl rfl ?_
                exact absurd ⟨h53.1 c143, c150, q154⟩ n3
              · skip
                refine wp_go rfl rfl ?_
                refine wp_go rfl rfl ?_
                refine e_get rfl H71 rfl rfl ?_
                refine wp_go rfl rfl ?_
                refine e_cne rfl (fun c166 => ?_) (fun c166 => ?_)
                · skip
                  refine wp_go rfl rfl ?_
                  refine wp_ret rfl rfl ?_
                  exact k
                · skip
                  refine wp_go rfl rfl ?_
                  refine wp_go rfl rfl ?_
                  refine e_cne rfl (fun c173 => ?_) (fun c173 => ?_)
                  · skip
                    refine wp_go rfl rfl ?_
                    refine wp_ret rfl rfl ?_
                    exact k
                  · skip
                    exact absurd ⟨h54.1 c166, c173⟩ n4
        · skip
          exact absurd ⟨h19.1 q78, c88⟩ n2
      · skip
        refine wp_go rfl rfl ?_
        refine wp_go rfl rfl ?_
        refine e_get rfl H71 rfl rfl ?_
        refine wp_go rfl rfl ?_
        refine e_cne rfl (fun c143 => ?_) (fun c143 => ?_)
        · skip
          refine wp_go rfl rfl ?_
          refine e_get rfl H71 rfl rfl ?_
          refine wp_go rfl rfl ?_
          refine e_cne rfl (fun c166 => ?_) (fun c166 => ?_)
          · skip
            refine wp_go rfl rfl ?_
            refine wp_ret rfl rfl ?_
            exact k
          · skip
            refine wp_go rfl rfl ?_
            refine wp_go rfl rfl ?_
            refine e_cne rfl (fun c173 => ?_) (fun c173 => ?_)
            · skip
              refine wp_go rfl rfl ?_
              refine wp_ret rfl rfl ?_
              exact k
            · skip
              exact absurd ⟨h54.1 c166, c173⟩ n4
        · skip
          refine wp_go rfl rfl ?_
          refine wp_go rfl rfl ?_
          refine e_cne rfl (fun c150 => ?_) (fun c150 => ?_)
          · skip
            refine wp_go rfl rfl ?_
            refine e_get rfl H71 rfl rfl ?_
            refine wp_go rfl rfl ?_
            refine e_cne rfl (fun c166 => ?_) (fun c166 => ?_)
            · skip
              refine wp_go rfl rfl ?_
              refine wp_ret rfl rfl ?_
              exact k
            · skip
              refine wp_go rfl rfl ?_
              refine wp_go rfl rfl ?_
              refine e_cne rfl (fun c173 => ?_) (fun c173 => ?_)
              · skip
                refine wp_go rfl rfl ?_
                refine wp_ret rfl rfl ?_
                exact k
              · skip
                exact absurd ⟨h54.1 c166, c173⟩ n4
          · skip
            refine wp_go rfl rfl ?_
            refine wp_cv rfl rfl rfl H71 rfl rfl rfl ?_
            refine c_cmq H71 H76 e17 (by omega) hp (fun q154 => ?_) (fun q154 => ?_)
            · skip
              refine wp_go rfl rfl ?_
              exact absurd ⟨h53.1 c143, c150, q154⟩ n3
            · skip
              refine wp_go rfl rfl ?_
              refine wp_go rfl rfl ?_
              refine e_get rfl H71 rfl rfl ?_
              refine wp_go rfl rfl ?_
              refine e_cne rfl (fun c166 => ?_) (fun c166 => ?_)
              · skip
                refine wp_go rfl rfl ?_
                refine wp_ret rfl rfl ?_
                exact k
              · skip
                refine wp_go rfl rfl ?_
                refine wp_go rfl rfl ?_
                refine e_cne rfl (fun c173 => ?_) (fun c173 => ?_)
                · skip
                  refine wp_go rfl rfl ?_
                  refine wp_ret rfl rfl ?_
                  exact k
                · skip
                  exact absurd ⟨h54.1 c166, c173⟩ n4
    · skip
      refine wp_go rfl rfl ?_
      refine wp_go rfl rfl ?_
      refine e_ceq rfl (fun c65 => ?_) (fun c65 => ?_)
      · skip
        exact absurd ⟨h51.1 c58, c65⟩ n1
      · skip
        refine wp_go rfl rfl ?_
        refine wp_go rfl rfl ?_
        refine wp_go rfl rfl ?_
        refine wp_go rfl rfl ?_
        refine wp_call rfl rfl rfl rfl ?_
        refine c_w3 (r := 6647396) (by decide +kernel) ?_
        refine wp_cv rfl rfl rfl H71 rfl rfl rfl ?_
        refine c_isWord H71 (fun q78 => ?_) (fun q78 => ?_)
        · skip
          refine wp_go rfl rfl ?_
          refine wp_go rfl rfl ?_
          refine wp_go rfl rfl ?_
          refine e_cne rfl (fun c88 => ?_) (fun c88 => ?_)
          · skip
            refine wp_go rfl rfl ?_
            refine e_get rfl H71 rfl rfl ?_
            refine wp_go rfl rfl ?_
            refine e_cne rfl (fun c143 => ?_) (fun c143 => ?_)
            · skip
              refine wp_go rfl rfl ?_
              refine e_get rfl H71 rfl rfl ?_
              refine wp_go rfl rfl ?_
              refine e_cne rfl (fun c166 => ?_) (fun c166 => ?_)
              · skip
                refine wp_go rfl rfl ?_
                refine wp_ret rfl rfl ?_
                exact k
              · skip
                refine wp_go rfl rfl ?_
                refine wp_go rfl rfl ?_
                refine e_cne rfl (fun c173 => ?_) (fun c173 => ?_)
                · skip
                  refine wp_go rfl rfl ?_
                  refine wp_ret rfl rfl ?_
                  exact k
                · skip
                  exact absurd ⟨h54.1 c166, c173⟩ n4
            · skip
              refine wp_go rfl rfl ?_
              refine wp_go rfl rfl ?_
              refine e_cne rfl (fun c150 => ?_) (fun c150 => ?_)
              · skip
                refine wp_go rfl rfl ?_
                refine e_get rfl H71 rfl rfl ?_
                refine wp_go rfl rfl ?_
                refine e_cne rfl (fun c166 => ?_) (fun c166 => ?_)
                · skip
                  refine wp_go rfl rfl ?_
                  refine wp_ret rfl rfl ?_
                  exact k
                · skip
                  refine wp_go rfl rfl ?_
                  refine wp_go rfl rfl ?_
                  refine e_cne rfl (fun c173 => ?_) (fun c173 => ?_)
                  · skip
                    refine wp_go rfl rfl ?_
                    refine wp_ret rfl rfl ?_
                    exact k
                  · skip
                    exact absurd ⟨h54.1 c166, c173⟩ n4
              · skip
                refine wp_go rfl rfl ?_
                refine wp_cv rfl rfl rfl H71 rfl rfl rfl ?_
                refine c_cmq H71 H76 e17 (by omega) hp (fun q154 => ?_) (fun q154 => ?_)
                · skip
                  refine wp_go rfl rfl ?_
                  exact absurd ⟨h53.1 c143, c150, q154⟩ n3
                · skip
                  refine wp_go rfl rfl ?_
                  refine wp_go rfl rfl ?_
                  refine e_get rfl H71 rfl rfl ?_
                  refine wp_go rfl rfl ?_
                  refine e_cne rfl (fun c166 => ?_) (fun c166 => ?_)
                  · skip
                    refine wp_go rfl rfl ?_
                    refine wp_ret rfl rfl ?_
                    exact k
                  · skip
                    refine wp_go rfl rfl ?_
                    refine wp_go rfl rfl ?_
                    refine e_cne rfl (fun c173 => ?_) (fun c173 => ?_)
                    · skip
                      refine wp_go rfl rfl ?_
                      refine wp_ret rfl rfl ?_
                      exact k
                    · skip
                      exact absurd ⟨h54.1 c166, c173⟩ n4
          · skip
            exact absurd ⟨h19.1 q78, c88⟩ n2
        · skip
          refine wp_go rfl rfl ?_
          refine wp_go rfl rfl ?_
          refine e_get rfl H71 rfl rfl ?_
          refine wp_go rfl rfl ?_
          refine e_cne rfl (fun c143 => ?_) (fun c143 => ?_)
          · skip
            refine wp_go rfl rfl ?_
            refine e_get rfl H71 rfl rfl ?_
            refine wp_go rfl rfl ?_
            refine e_cne rfl (fun c166 => ?_) (fun c166 => ?_)
            · skip
              refine wp_go rfl rfl ?_
              refine wp_ret rfl rfl ?_
              exact k
            · skip
              refine wp_go rfl rfl ?_
              refine wp_go rfl rfl ?_
              refine e_cne rfl (fun c173 => ?_) (fun c173 => ?_)
              · skip
                refine wp_go rfl rfl ?_
                refine wp_ret rfl rfl ?_
                exact k
              · skip
                exact absurd ⟨h54.1 c166, c173⟩ n4
          · skip
            refine wp_go rfl rfl ?_
            refine wp_go rfl rfl ?_
            refine e_cne rfl (fun c150 => ?_) (fun c150 => ?_)
            · skip
              refine wp_go rfl rfl ?_
              refine e_get rfl H71 rfl rfl ?_
              refine wp_go rfl rfl ?_
              refine e_cne rfl (fun c166 => ?_) (fun c166 => ?_)
              · skip
                refine wp_go rfl rfl ?_
                refine wp_ret rfl rfl ?_
                exact k
              · skip
                refine wp_go rfl rfl ?_
                refine wp_go rfl rfl ?_
                refine e_cne rfl (fun c173 => ?_) (fun c173 => ?_)
                · skip
                  refine wp_go rfl rfl ?_
                  refine wp_ret rfl rfl ?_
                  exact k
                · skip
                  exact absurd ⟨h54.1 c166, c173⟩ n4
            · skip
              refine wp_go rfl rfl ?_
              refine wp_cv rfl rfl rfl H71 rfl rfl rfl ?_
              refine c_cmq H71 H76 e17 (by omega) hp (fun q154 => ?_) (fun q154 => ?_)
              · skip
                refine wp_go rfl rfl ?_
                exact absurd ⟨h53.1 c143, c150, q154⟩ n3
              · skip
                refine wp_go rfl rfl ?_
                refine wp_go rfl rfl ?_
                refine e_get rfl H71 rfl rfl ?_
                refine wp_go rfl rfl ?_
                refine e_cne rfl (fun c166 => ?_) (fun c166 => ?_)
                · skip
                  refine wp_go rfl rfl ?_
                  refine wp_ret rfl rfl ?_
                  exact k
                · skip
                  refine wp_go rfl rfl ?_
                  refine wp_go rfl rfl ?_
                  refine e_cne rfl (fun c173 => ?_) (fun c173 => ?_)
                  · skip
                    refine wp_go rfl rfl ?_
                    refine wp_ret rfl rfl ?_
                    exact k
                  · skip
                    exact absurd ⟨h54.1 c166, c173⟩ n4
  · skip
    refine wp_go rfl rfl ?_
    refine wp_go rfl rfl ?_
    refine e_ist (L' := [xR 71, xI 0, xI (-1), xI (mki ps), xI (-1)]) rfl rfl rfl ?_
    refine wp_go rfl rfl ?_
    refine wp_go rfl rfl ?_
    refine wp_go rfl rfl ?_
    refine e_get rfl H71 rfl rfl ?_
    refine wp_go rfl rfl ?_
    refine e_cne rfl (fun c58 => ?_) (fun c58 => ?_)
    · skip
      refine wp_go rfl rfl ?_
      refine wp_go rfl rfl ?_
      refine wp_go rfl rfl ?_
      refine wp_go rfl rfl ?_
      refine wp_call rfl rfl rfl rfl ?_
      refine c_w3 (r := 6647396) (by decide +kernel) ?_
      refine wp_cv rfl rfl rfl H71 rfl rfl rfl ?_
      refine c_isWord H71 (fun q78 => ?_) (fun q78 => ?_)
      · skip
        refine wp_go rfl rfl ?_
        refine wp_go rfl rfl ?_
        refine wp_go rfl rfl ?_
        refine wp_go rfl rfl ?_
        refine wp_go rfl rfl ?_
        refine e_get rfl H71 rfl rfl ?_
        refine wp_go rfl rfl ?_
        refine e_cne rfl (fun c143 => ?_) (fun c143 => ?_)
        · skip
          refine wp_go rfl rfl ?_
          refine e_get rfl H71 rfl rfl ?_
          refine wp_go rfl rfl ?_
          refine e_cne rfl (fun c166 => ?_) (fun c166 => ?_)
          · skip
            refine wp_go rfl rfl ?_
            refine wp_ret rfl rfl ?_
            exact k
          · skip
            refine wp_go rfl rfl ?_
            refine wp_go rfl rfl ?_
            refine wp_go rfl rfl ?_
            refine wp_go rfl rfl ?_
            refine wp_ret rfl rfl ?_
            exact k
        · skip
          refine wp_go rfl rfl ?_
          refine wp_go rfl rfl ?_
          refine wp_go rfl rfl ?_
          refine wp_go rfl rfl ?_
          refine e_get rfl H71 rfl rfl ?_
          refine wp_go rfl rfl ?_
          refine e_cne rfl (fun c166 => ?_) (fun c166 => ?_)
          · skip
            refine wp_go rfl rfl ?_
            refine wp_ret rfl rfl ?_
            exact k
          · skip
            refine wp_go rfl rfl ?_
            refine wp_go rfl rfl ?_
            refine wp_go rfl rfl ?_
            refine wp_go rfl rfl ?_
            refine wp_ret rfl rfl ?_
            exact k
      · skip
        refine wp_go rfl rfl ?_
        refine wp_go rfl rfl ?_
        refine e_get rfl H71 rfl rfl ?_
        refine wp_go rfl rfl ?_
        refine e_cne rfl (fun c143 => ?_) (fun c143 => ?_)
        · skip
          refine wp_go rfl rfl ?_
          refine e_get rfl H71 rfl rfl ?_
          refine wp_go rfl rfl ?_
          refine e_cne rfl (fun c166 => ?_) (fun c166 => ?_)
          · skip
            refine wp_go rfl rfl ?_
            refine wp_ret rfl rfl ?_
            exact k
          · skip
            refine wp_go rfl rfl ?_
            refine wp_go rfl rfl ?_
            refine wp_go rfl rfl ?_
            refine wp_go rfl rfl ?_
            refine wp_ret rfl rfl ?_
            exact k
        · skip
          refine wp_go rfl rfl ?_
          refine wp_go rfl rfl ?_
          refine wp_go rfl rfl ?_
          refine wp_go rfl rfl ?_
          refine e_get rfl H71 rfl rfl ?_
          refine wp_go rfl rfl ?_
          refine e_cne rfl (fun c166 => ?_) (fun c166 => ?_)
          · skip
            refine wp_go rfl rfl ?_
            refine wp_ret rfl rfl ?_
            exact k
          · skip
            refine wp_go rfl rfl ?_
            refine wp_go rfl rfl ?_
            refine wp_go rfl rfl ?_
            refine wp_go rfl rfl ?_
            refine wp_ret rfl rfl ?_
            exact k
    · skip
      refine wp_go rfl rfl ?_
      refine wp_go rfl rfl ?_
      refine wp_go rfl rfl ?_
      refine wp_go rfl rfl ?_
      refine wp_go rfl rfl ?_
      refine wp_go rfl rfl ?_
      refine wp_go rfl rfl ?_
      refine wp_call rfl rfl rfl rfl ?_
      refine c_w3 (r := 6647396) (by decide +kernel) ?_
      refine wp_cv rfl rfl rfl H71 rfl rfl rfl ?_
      refine c_isWord H71 (fun q78 => ?_) (fun q78 => ?_)
      · skip
        refine wp_go rfl rfl ?_
        refine wp_go rfl rfl ?_
        refine wp_go rfl rfl ?_
        refine wp_go rfl rfl ?_
        refine wp_go rfl rfl ?_
        refine e_get rfl H71 rfl rfl ?_
        refine wp_go rfl rfl ?_
        refine e_cne rfl (fun c143 => ?_) (fun c143 => ?_)
        · skip
          refine wp_go rfl rfl ?_
          refine e_get rfl H71 rfl rfl ?_
          refine wp_go rfl rfl ?_
          refine e_cne rfl (fun c166 => ?_) (fun c166 => ?_)
          · skip
            refine wp_go rfl rfl ?_
            refine wp_ret rfl rfl ?_
            exact k
          · skip
            refine wp_go rfl rfl ?_
            refine wp_go rfl rfl ?_
            refine wp_go rfl rfl ?_
            refine wp_go rfl rfl ?_
            refine wp_ret rfl rfl ?_
            exact k
        · skip
          refine wp_go rfl rfl ?_
          refine wp_go rfl rfl ?_
          refine wp_go rfl rfl ?_
          refine wp_go rfl rfl ?_
          refine e_get rfl H71 rfl rfl ?_
          refine wp_go rfl rfl ?_
          refine e_cne rfl (fun c166 => ?_) (fun c166 => ?_)
          · skip
            refine wp_go rfl rfl ?_
            refine wp_ret rfl rfl ?_
            exact k
          · skip
            refine wp_go rfl rfl ?_
            refine wp_go rfl rfl ?_
            refine wp_go rfl rfl ?_
            refine wp_go rfl rfl ?_
            refine wp_ret rfl rfl ?_
            exact k
      · skip
        refine wp_go rfl rfl ?_
        refine wp_go rfl rfl ?_
        refine e_get rfl H71 rfl rfl ?_
        refine wp_go rfl rfl ?_
        refine e_cne rfl (fun c143 => ?_) (fun c143 => ?_)
        · skip
          refine wp_go rfl rfl ?_
          refine e_get rfl H71 rfl rfl ?_
          refine wp_go rfl rfl ?_
          refine e_cne rfl (fun c166 => ?_) (fun c166 => ?_)
          · skip
            refine wp_go rfl rfl ?_
            refine wp_ret rfl rfl ?_
            exact k
          · skip
            refine wp_go rfl rfl ?_
            refine wp_go rfl rfl ?_
            refine wp_go rfl rfl ?_
            refine wp_go rfl rfl ?_
            refine wp_ret rfl rfl ?_
            exact k
        · skip
          refine wp_go rfl rfl ?_
          refine wp_go rfl rfl ?_
          refine wp_go rfl rfl ?_
          refine wp_go rfl rfl ?_
          refine e_get rfl H71 rfl rfl ?_
          refine wp_go rfl rfl ?_
          refine e_cne rfl (fun c166 => ?_) (fun c166 => ?_)
          · skip
            refine wp_go rfl rfl ?_
            refine wp_ret rfl rfl ?_
            exact k
          · skip
            refine wp_go rfl rfl ?_
            refine wp_go rfl rfl ?_
            refine wp_go rfl rfl ?_
            refine wp_go rfl rfl ?_
            refine wp_ret rfl rfl ?_
            exact k
