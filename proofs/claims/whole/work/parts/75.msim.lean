/-! the reference: ONE -/
set_option maxRecDepth 100000 in
theorem cm_0 {B : Nat → Int} {n : Nat} {lw : Int} {t0 d : Nat} (H : BY B) (hn : n ≤ 300) (hlw : lw = 10 ∨ lw = 11) {f : Nat} (ih : ∀ m, m ≤ 9 → CONM B n lw t0 d f m) : CONM B n lw t0 d (f + 1) 0 := by
  intro o v i r hsp h Q s T fp w w0 mm pre p l M hb hd hm41 hpre0 hmm hnl hlp hna kok kf
  rw [sP_0] at hsp
  have x0 : mx 0 = 0 := rfl
  have x1 : mx 1 = 1 := rfl
  have x2 : mx 2 = 2 := rfl
  have x3 : mx 3 = 1 := rfl
  have x4 : mx 4 = 2 := rfl
  have x5 : mx 5 = 5 := rfl
  have x6 : mx 6 = 4 := rfl
  have x7 : mx 7 = 3 := rfl
  have x8 : mx 8 = 5 := rfl
  have x9 : mx 9 = 4 := rfl
  obtain ⟨rfl, -⟩ := hnl rfl
  have hpr := hpre0 rfl
  have hm2 : ∀ z, z ∈ pre → z = 2 := by
    intro z hz
    rw [hpr] at hz
    exact List.eq_of_mem_replicate hz
  have hpl : pre.length = mm := by rw [hpr, List.length_replicate]
  have hla : (pre ++ p).length = pre.length + p.length := List.length_append
  rw [x0] at hb
  have O0 : OPS 0 o [] := ⟨fun z hz => absurd hz List.not_mem_nil, Nat.zero_le _, fun z => absurd z (by decide)⟩
  refine lh_beg M.1 M.2.2.2.2.2.2.2.2.2.1 ?_
  refine c_begin (K := tK B n i) (ops := pre) (rest := p) H hn hlw rfl M hm2 hd ⟨hb.2.2.1, hb.2.2.2.1, by omega, by show 0 ≤ (o : Int) + 0; omega, by show (o : Int) + 0 ≤ 8; omega, hb.2.2.2.2.2.2⟩ (fun a1 a2 a3 a4 a5 a6 => ?_) (fun a1 a2 => ?_) (fun a1 a2 => ?_) (fun a1 a2 => ?_) (fun a1 a2 h2 s2 T2 M2 SA c1 c2 CD ME2 FR2 => ?_) (fun a1 a2 h2 s2 T2 M2 SA c1 c2 CD ME2 FR2 => ?_) (fun a1 a2 h2 s2 f2 M2 ME2 FR2 => ?_) (fun a1 a2 h2 s2 f2 M2 ME2 FR2 => ?_) (fun a1 a2 h2 s2 f2 M2 ME2 FR2 => ?_) (fun a1 a3 a2 h2 s2 f2 M2 ME2 FR2 => absurd (hna rfl rfl a1) (by rw [a3]; decide))
  · rw [if_neg a1, if_neg a3, if_neg a4, if_neg a5, if_neg a2] at hsp
    obtain rfl := Option.some.inj hsp
    exact lh_f (by decide) (kf 1 i rfl h s T fp M.1 M.2.1 M.2.2.2.1 M.2.2.2.2.1.2.2.1 ME.rf (fun _ _ => rfl) Fr.rf)
  · rw [if_pos a1, if_neg a2] at hsp
    obtain rfl := Option.some.inj hsp
    exact lh_f (by decide) (kf 2 i rfl h s T fp M.1 M.2.1 M.2.2.2.1 M.2.2.2.2.1.2.2.1 ME.rf (fun _ _ => rfl) Fr.rf)
  · have ho : 8 ≤ o := by have : (o : Int) + 0 = 8 := a2; omega
    have hsp3 : sF 3 i = some r := by
      rcases a1 with a1 | a1 | a1 | a1
      · rw [if_neg (by omega), if_pos a1, if_pos ho] at hsp; exact hsp
      · rw [if_neg (by omega), if_neg (by omega), if_pos a1, if_pos ho] at hsp; exact hsp
      · rw [if_neg (by omega), if_neg (by omega), if_neg (by omega), if_pos a1, if_pos ho] at hsp; exact hsp
      · exact absurd (hna rfl rfl a1.1) (by rw [a1.2]; decide)
    obtain rfl := Option.some.inj hsp3
    exact lh_f (by decide) (kf 3 i rfl h s T fp M.1 M.2.1 M.2.2.2.1 M.2.2.2.2.1.2.2.1 ME.rf (fun _ _ => rfl) Fr.rf)
  · rw [if_neg (by omega), if_neg (by omega), if_neg (by omega), if_neg (by omega), if_pos a1, if_neg (nt a2)] at hsp
    obtain rfl := Option.some.inj hsp
    exact lh_f (by decide) (kf 5 i rfl h s T fp M.1 M.2.1 M.2.2.2.1 M.2.2.2.2.1.2.2.1 ME.rf (fun _ _ => rfl) Fr.rf)
  · rw [if_pos a1, if_pos a2] at hsp
    obtain rfl := Option.some.inj hsp
    have hlt := tK_lt H hn (show tK B n i ≠ 0 by omega)
    refine lh_z (fun l2 => ?_)
    have hpc := PC_neg pre (w0 + 1) _ (PC_num (lw := lw) c1 c2 ⟨(tN_bd (B := B) (n := n) (i := i)).1, a2⟩) hm2 CD
    rw [hpl] at hpc M2
    exact kok (i + 1) _ rfl h2 s2 T2 fp (w0 + 1 + mm) [] l2 (M2.cq (by show (o : Int) + 0 - (mm : Int) = (o : Int) - (mm : Int) + 0; omega)) hpc.pen O0 trivial ⟨by omega, by omega, by rw [List.nil_append]; omega, by omega⟩ (SA.ts (Nat.le_refl _) (by omega)) ME2 FR2
  · rw [if_neg (by omega), if_neg (by omega), if_neg (by omega), if_neg (by omega), if_pos a1, if_pos a2] at hsp
    obtain rfl := Option.some.inj hsp
    have hlt := tK_lt H hn (show tK B n i ≠ 0 by omega)
    refine lh_z (fun l2 => ?_)
    have hpc := PC_neg pre (w0 + 1) _ (PC_name (lw := lw) c1 c2 a1 hlw a2) hm2 CD
    rw [hpl] at hpc M2
    exact kok (i + 1) _ rfl h2 s2 T2 fp (w0 + 1 + mm) [] l2 (M2.cq (by show (o : Int) + 0 - (mm : Int) = (o : Int) - (mm : Int) + 0; omega)) hpc.pen O0 trivial ⟨by omega, by omega, by rw [List.nil_append]; omega, by omega⟩ (SA.ts (Nat.le_refl _) (by omega)) ME2 FR2
  · have ho : ¬ 8 ≤ o := by have : (o : Int) + 0 < 8 := a2; omega
    rw [if_neg (by omega), if_pos a1, if_neg ho] at hsp
    obtain ⟨q, hq, hsp⟩ := sb_some hsp
    have hlt := tK_lt H hn (show tK B n i ≠ 0 by omega)
    refine lh_z (fun l2 => ?_)
    have M2b : MST B n h2 s2 T f2 t0 lw (i + 1) w0 ([] ++ 40 :: (pre ++ p)) (((o + 1 : Nat) : Int) + 0) 0 := M2.cq (by show (o : Int) + 0 + 1 = _; omega)
    refine ih 2 (by decide) (o + 1) v (i + 1) q hq h2 Q s2 T f2 w0 w0 0 [] (40 :: (pre ++ p)) l2 M2b (by rw [x2, List.nil_append, List.length_cons]; omega) (HD_c (by decide)) (fun z => absurd z (by decide)) (fun z => absurd z (by decide)) (fun _ => rfl) (fun _ => ⟨rfl, fun _ => rfl⟩) (fun z => absurd z (by decide)) (fun _ _ _ => rfl) ?_ ?_
    · intro j V e h3 s3 T3 f3 w3 ops3 l3 M3 P3 O3 F3 B3 S3 ME3 FR3
      subst e
      dsimp only [sb] at hsp
      have O3l := O3.2.1
      rw [x2] at O3l
      have F3b : ¬ (46 ≤ tK B n j ∧ tK B n j ≤ 49) := F3
      have hcb := cnt_bd ops3
      have hl_ops3 : (ops3 ++ 40 :: (pre ++ p)).length = ops3.length + ((pre ++ p).length + 1) := by rw [List.length_append, List.length_cons]
      by_cases c : tK B n j = 51
      · rw [if_pos c] at hsp
        obtain rfl := Option.some.inj hsp
        have hlt2 := tK_lt H hn (show tK B n j ≠ 0 by omega)
        refine lh_beh M3.1 M3.2.2.2.2.2.2.2.2.2.1 ?_
        refine c_bcl40 (ops := ops3) (ms := pre) (rest := p) H hn rfl M3 c (fun z hz => Int.le_trans (by decide) (O3.1 z hz).1) hm2 hd ⟨by omega, by omega, by omega, by omega, by omega, by omega⟩ ?_
        intro h4 s4 T4 M4 SA4 CD4 CD5 ME4 FR4
        refine lh_one ?_
        have PCa : PC lw T4 (t0 + 75) w0 (w3 + ops3.length) V false := P3 T4 (fun x h1 h2 => SA4 x (Or.inl h2)) CD4
        have hpc := PC_neg pre _ _ PCa hm2 CD5
        rw [hpl] at hpc M4 SA4
        exact kok (j + 1) _ rfl h4 s4 T4 f3 (w3 + ops3.length + mm) [] l3 (M4.cq (by show _ = (o : Int) - (mm : Int) + 0; omega)) hpc.pen O0 trivial ⟨by omega, by omega, by rw [List.nil_append]; omega, by omega⟩ (S3.tr (SA4.ts (w0 := w0) (by omega) (by omega)) (Nat.le_refl _)) ((ME2.tr ME3 (fun _ z => z)).tr ME4 (fun _ z => z)) ((FR2.tr FR3 (fun _ z => z)).tr FR4 (fun _ z => z))
      · rw [if_neg c] at hsp
        obtain rfl := Option.some.inj hsp
        have h40 : ∀ z, z ∈ ops3 → z < 40 := fun z hz => rkm_lt (Int.le_trans (by decide) (O3.1 z hz).1)
        have hmk := mki_c (a := ops3) (x := 40) (p := pre ++ p) h40 (by decide)
        have hko : kop (ops3 ++ 40 :: (pre ++ p)) = 40 := by
          unfold kop
          rw [hmk.1, hmk.2, if_neg (by omega)]
        refine lh_beh M3.1 M3.2.2.2.2.2.2.2.2.2.1 ?_
        refine c_bno rfl M3 (by unfold bto; rw [if_neg F3b, hko, if_neg (by decide)]) (by rw [hmk.2]; omega) (by rw [hmk.2]; omega) (by rw [hmk.2]; omega) (by rw [hmk.2]; omega) (by omega) ?_
        refine lh_e1 M3.1 M3.2.2.2.1 M3.2.2.2.2.2.2.2.1 (by omega) M3.2.2.2.2.2.2.2.2.2.2.2 (by rw [hmk.1]; omega) ?_
        exact kf 1 j rfl h3 s3 T3 f3 M3.1 M3.2.1 M3.2.2.2.1 M3.2.2.2.2.1.2.2.1 (ME2.tr ME3 (fun _ z => z)) S3 (FR2.tr FR3 (fun _ z => z))
    · intro fl k e
      subst e
      dsimp only [sb] at hsp
      obtain rfl := Option.some.inj hsp
      exact (kf.tr rfl ME2 (fun _ _ => rfl) FR2 (Nat.le_refl _)) fl k rfl
  · have ho : ¬ 8 ≤ o := by have : (o : Int) + 0 < 8 := a2; omega
    rw [if_neg (by omega), if_neg (by omega), if_pos a1, if_neg ho] at hsp
    obtain ⟨q, hq, hsp⟩ := sb_some hsp
    have hlt := tK_lt H hn (show tK B n i ≠ 0 by omega)
    refine lh_z (fun l2 => ?_)
    have M2b : MST B n h2 s2 T f2 t0 lw (i + 1) w0 ((2 :: pre) ++ p) (((o + 1 : Nat) : Int) + 0) 0 := M2.cq (by show (o : Int) + 0 + 1 = _; omega)
    refine ih 0 (by decide) (o + 1) v (i + 1) q hq h2 Q s2 T f2 w0 w0 (mm + 1) (2 :: pre) p l2 M2b (by rw [x0, List.cons_append, List.length_cons]; omega) hd (fun z => absurd z (by decide)) (fun _ => by rw [hpr]; rfl) (fun z => absurd rfl z) (fun _ => ⟨rfl, fun z => absurd rfl z⟩) (fun z => absurd z (by decide)) (fun _ _ _ => by rw [List.cons_append]; unfold aah; show (decide (kop (2 :: (pre ++ p)) = 41) && false) = false; exact Bool.and_false _) ?_ ?_
    · intro j V e h3 s3 T3 f3 w3 ops3 l3 M3 P3 O3 F3 B3 S3 ME3 FR3
      subst e
      dsimp only [sb] at hsp
      obtain rfl := Option.some.inj hsp
      match ops3, O3, M3, P3, B3 with
      | [], _, M3, P3, B3 =>
        exact kok j (ngv V) rfl h3 s3 T3 f3 w3 [] l3 (M3.cq (by omega)) P3 O0 trivial ⟨by omega, by omega, by omega, by omega⟩ S3 (ME2.tr ME3 (fun _ z => z)) (FR2.tr FR3 (fun _ z => z))
      | x :: r3, O3, _, _, _ =>
        have := O3.1 x List.mem_cons_self
        exact absurd (show (8 : Int) ≤ 6 from Int.le_trans this.1 this.2) (by decide)
    · intro fl k e
      subst e
      dsimp only [sb] at hsp
      obtain rfl := Option.some.inj hsp
      exact (kf.tr rfl ME2 (fun _ _ => rfl) FR2 (Nat.le_refl _)) fl k rfl
  · have ho : ¬ 8 ≤ o := by have : (o : Int) + 0 < 8 := a2; omega
    rw [if_neg (by omega), if_neg (by omega), if_neg (by omega), if_pos a1, if_neg ho] at hsp
    obtain ⟨q, hq, hsp⟩ := sb_some hsp
    have hlt := tK_lt H hn (show tK B n i ≠ 0 by omega)
    refine lh_z (fun l2 => ?_)
    have M2b : MST B n h2 s2 T f2 t0 lw (i + 1) w0 ([] ++ 41 :: (pre ++ p)) (((o + 1 : Nat) : Int) + 0) 0 := M2.cq (by show (o : Int) + 0 + 1 = _; omega)
    refine ih 5 (by decide) (o + 1) v (i + 1) q hq h2 Q s2 T f2 w0 w0 0 [] (41 :: (pre ++ p)) l2 M2b (by rw [x5, List.nil_append, List.length_cons]; omega) (HD_c (by decide)) (fun _ => rfl) (fun z => absurd z (by decide)) (fun _ => rfl) (fun _ => ⟨rfl, fun _ => rfl⟩) (fun z => absurd z (by decide)) (fun z => absurd z (by decide)) ?_ ?_
    · intro j Z e h3 s3 T3 f3 w3 ops3 l3 M3 P3 O3 F3 B3 S3 ME3 FR3
      subst e
      dsimp only [sb] at hsp
      have O3l := O3.2.1
      rw [x5] at O3l
      have F3b : ¬ (46 ≤ tK B n j ∧ tK B n j ≤ 49) ∧ tK B n j ≠ 21 ∧ tK B n j ≠ 20 := F3
      have hcb := cnt_bd ops3
      have hl_ops3 : (ops3 ++ 41 :: (pre ++ p)).length = ops3.length + ((pre ++ p).length + 1) := by rw [List.length_append, List.length_cons]
      have mA := ME2.tr ME3 (fun _ z => z)
      have fA := FR2.tr FR3 (fun _ z => z)
      by_cases c : tK B n j = 53
      · rw [if_pos c] at hsp
        obtain ⟨q4, hq4, hsp⟩ := sb_some hsp
        have hlt2 := tK_lt H hn (show tK B n j ≠ 0 by omega)
        refine lh_beh M3.1 M3.2.2.2.2.2.2.2.2.2.1 ?_
        refine c_bmi41 (ops := ops3) (p := pre ++ p) H hn rfl M3 c (cmq_app ops3 (O3.2.2 rfl)) (fun z hz => Int.le_trans (by decide) (O3.1 z hz).1) ⟨by omega, by omega, by omega, by omega, by omega, by omega⟩ ?_
        intro h4 s4 T4 f4 M4 SA4 CD4 ME4 FR4
        refine lh_one ?_
        have PZ : PC lw T4 (t0 + 75) w0 (w3 + ops3.length) Z true := P3.pc SA4 CD4
        have TB : TSM T T4 t0 w0 := S3.tr (SA4.ts (w0 := w0) (by omega) (by omega)) (Nat.le_refl _)
        have mB := mA.tr ME4 (fun _ z => z)
        have fB := fA.tr FR4 (fun _ z => z)
        have M4b : MST B n h4 s4 T4 f4 t0 lw (j + 1) (w3 + ops3.length) ([] ++ 42 :: (pre ++ p)) (((o + 1 : Nat) : Int) + 0) 0 := M4.cq (by omega)
        refine ih 2 (by decide) (o + 1) v (j + 1) q4 hq4 h4 Q s4 T4 f4 (w3 + ops3.length) (w3 + ops3.length) 0 [] (42 :: (pre ++ p)) l3 M4b (by rw [x2, List.nil_append, List.length_cons]; omega) (HD_c (by decide)) (fun z => absurd z (by decide)) (fun z => absurd z (by decide)) (fun _ => rfl) (fun _ => ⟨rfl, fun _ => rfl⟩) (fun z => absurd z (by decide)) (fun _ _ _ => rfl) ?_ ?_
        · intro j5 X e h5 s5 T5 f5 w5 ops5 l5 M5 P5 O5 F5 B5 S5 ME5 FR5
          subst e
          dsimp only [sb] at hsp
          have O5l := O5.2.1
          rw [x2] at O5l
          have F5b : ¬ (46 ≤ tK B n j5 ∧ tK B n j5 ≤ 49) := F5
          have hcb5 := cnt_bd ops5
          have hl_ops5 : (ops5 ++ 42 :: (pre ++ p)).length = ops5.length + ((pre ++ p).length + 1) := by rw [List.length_append, List.length_cons]
          have mC := mB.tr ME5 (fun _ z => z)
          have fC := fB.tr FR5 (fun _ z => z)
          have TC : TSM T T5 t0 w0 := TB.tr S5 (by omega)
          by_cases c5 : tK B n j5 = 54
          · rw [if_pos c5] at hsp
            obtain ⟨q6, hq6, hsp⟩ := sb_some hsp
            have hlt3 := tK_lt H hn (show tK B n j5 ≠ 0 by omega)
            refine lh_beh M5.1 M5.2.2.2.2.2.2.2.2.2.1 ?_
            refine c_bmi42 (ops := ops5) (p := pre ++ p) H hn rfl M5 c5 (fun z hz => Int.le_trans (by decide) (O5.1 z hz).1) ⟨by omega, by omega, by omega, by omega, by omega, by omega⟩ ?_
            intro h6 s6 T6 f6 M6 SA6 CD6 ME6 FR6
            refine lh_one ?_
            have PX : PC lw T6 (t0 + 75) (w3 + ops3.length) (w5 + ops5.length) X false := P5.pc SA6 CD6
            have PZ6 : PC lw T6 (t0 + 75) w0 (w3 + ops3.length) Z true := PZ.eq (fun x h1 h2 => (SA6 x (by omega)).trans (S5 x (by omega)))
            have TD : TSM T T6 t0 w0 := TC.tr (SA6.ts (w0 := w0) (by omega) (by omega)) (Nat.le_refl _)
            have mD := mC.tr ME6 (fun _ z => z)
            have fD := fC.tr FR6 (fun _ z => z)
            have M6b : MST B n h6 s6 T6 f6 t0 lw (j5 + 1) (w5 + ops5.length) ([] ++ 43 :: (pre ++ p)) (((o + 1 : Nat) : Int) + 0) 0 := M6.cq (by omega)
            refine ih 2 (by decide) (o + 1) v (j5 + 1) q6 hq6 h6 Q s6 T6 f6 (w5 + ops5.length) (w5 + ops5.length) 0 [] (43 :: (pre ++ p)) l5 M6b (by rw [x2, List.nil_append, List.length_cons]; omega) (HD_c (by decide)) (fun z => absurd z (by decide)) (fun z => absurd z (by decide)) (fun _ => rfl) (fun _ => ⟨rfl, fun _ => rfl⟩) (fun z => absurd z (by decide)) (fun _ _ _ => rfl) ?_ ?_
            · intro j7 Y e h7 s7 T7 f7 w7 ops7 l7 M7 P7 O7 F7 B7 S7 ME7 FR7
              subst e
              dsimp only [sb] at hsp
              have O7l := O7.2.1
              rw [x2] at O7l
              have F7b : ¬ (46 ≤ tK B n j7 ∧ tK B n j7 ≤ 49) := F7
              have hcb7 := cnt_bd ops7
              have hl_ops7 : (ops7 ++ 43 :: (pre ++ p)).length = ops7.length + ((pre ++ p).length + 1) := by rw [List.length_append, List.length_cons]
              have mE := mD.tr ME7 (fun _ z => z)
              have fE := fD.tr FR7 (fun _ z => z)
              have TE : TSM T T7 t0 w0 := TD.tr S7 (by omega)
              by_cases c7 : tK B n j7 = 19
              · rw [if_pos c7] at hsp
                obtain rfl := Option.some.inj hsp
                have hlt4 := tK_lt H hn (show tK B n j7 ≠ 0 by omega)
                refine lh_beh M7.1 M7.2.2.2.2.2.2.2.2.2.1 ?_
                refine c_bcl43 (ops := ops7) (ms := pre) (rest := p) H hn rfl M7 c7 (fun z hz => Int.le_trans (by decide) (O7.1 z hz).1) hm2 hd ⟨by omega, by omega, by omega, by omega, by omega, by omega⟩ ?_
                intro h8 s8 T8 M8 SA8 CD8 E8 CD9 ME8 FR8
                refine lh_one ?_
                have PY : PC lw T8 (t0 + 75) (w5 + ops5.length) (w7 + ops7.length) Y false := P7 T8 (fun x h1 h2 => SA8 x (Or.inl h2)) CD8
                have PZ8 : PC lw T8 (t0 + 75) w0 (w3 + ops3.length) Z true := PZ6.eq (fun x h1 h2 => (SA8 x (by omega)).trans (S7 x (by omega)))
                have PX8 : PC lw T8 (t0 + 75) (w3 + ops3.length) (w5 + ops5.length) X false := PX.eq (fun x h1 h2 => (SA8 x (by omega)).trans (S7 x (by omega)))
                have hps := PC_sel PZ8 PX8 PY E8.1 E8.2
                have hpc := PC_neg pre _ _ hps hm2 CD9
                rw [hpl] at hpc M8 SA8
                exact kok (j7 + 1) _ rfl h8 s8 T8 f7 (w7 + ops7.length + 1 + mm) [] l7 (M8.cq (by show _ = (o : Int) - (mm : Int) + 0; omega)) hpc.pen O0 trivial ⟨by omega, by omega, by rw [List.nil_append]; omega, by omega⟩ (TE.tr (SA8.ts (w0 := w0) (by omega) (by omega)) (Nat.le_refl _)) (mE.tr ME8 (fun _ z => z)) (fE.tr FR8 (fun _ z => z))
              · rw [if_neg c7] at hsp
                obtain rfl := Option.some.inj hsp
                have h40 : ∀ z, z ∈ ops7 → z < 40 := fun z hz => rkm_lt (Int.le_trans (by decide) (O7.1 z hz).1)
                have hmk := mki_c (a := ops7) (x := 43) (p := pre ++ p) h40 (by decide)
                have hko : kop (ops7 ++ 43 :: (pre ++ p)) = 43 := by
                  unfold kop
                  rw [hmk.1, hmk.2, if_neg (by omega)]
                refine lh_beh M7.1 M7.2.2.2.2.2.2.2.2.2.1 ?_
                refine c_bno rfl M7 (by unfold bto; rw [if_neg F7b, hko, if_neg (by decide)]) (by rw [hmk.2]; omega) (by rw [hmk.2]; omega) (by rw [hmk.2]; omega) (by rw [hmk.2]; omega) (by omega) ?_
                refine lh_e1 M7.1 M7.2.2.2.1 M7.2.2.2.2.2.2.2.1 (by omega) M7.2.2.2.2.2.2.2.2.2.2.2 (by rw [hmk.1]; omega) ?_
                exact kf 1 j7 rfl h7 s7 T7 f7 M7.1 M7.2.1 M7.2.2.2.1 M7.2.2.2.2.1.2.2.1 mE TE fE
            · intro fl k e
              subst e
              dsimp only [sb] at hsp
              obtain rfl := Option.some.inj hsp
              exact (kf.tr rfl mD TD fD (by omega)) fl k rfl
          · rw [if_neg c5] at hsp
            obtain rfl := Option.some.inj hsp
            have h40 : ∀ z, z ∈ ops5 → z < 40 := fun z hz => rkm_lt (Int.le_trans (by decide) (O5.1 z hz).1)
            have hmk := mki_c (a := ops5) (x := 42) (p := pre ++ p) h40 (by decide)
            have hko : kop (ops5 ++ 42 :: (pre ++ p)) = 42 := by
              unfold kop
              rw [hmk.1, hmk.2, if_neg (by omega)]
            refine lh_beh M5.1 M5.2.2.2.2.2.2.2.2.2.1 ?_
            refine c_bno rfl M5 (by unfold bto; rw [if_neg F5b, hko, if_neg (by decide)]) (by rw [hmk.2]; omega) (by rw [hmk.2]; omega) (by rw [hmk.2]; omega) (by rw [hmk.2]; omega) (by omega) ?_
            refine lh_e1 M5.1 M5.2.2.2.1 M5.2.2.2.2.2.2.2.1 (by omega) M5.2.2.2.2.2.2.2.2.2.2.2 (by rw [hmk.1]; omega) ?_
            exact kf 1 j5 rfl h5 s5 T5 f5 M5.1 M5.2.1 M5.2.2.2.1 M5.2.2.2.2.1.2.2.1 mC TC fC
        · intro fl k e
          subst e
          dsimp only [sb] at hsp
          obtain rfl := Option.some.inj hsp
          exact (kf.tr rfl mB TB fB (by omega)) fl k rfl
      · rw [if_neg c] at hsp
        obtain rfl := Option.some.inj hsp
        have h40 : ∀ z, z ∈ ops3 → z < 40 := fun z hz => rkm_lt (Int.le_trans (by decide) (O3.1 z hz).1)
        have hmk := mki_c (a := ops3) (x := 41) (p := pre ++ p) h40 (by decide)
        have hko : kop (ops3 ++ 41 :: (pre ++ p)) = 41 := by
          unfold kop
          rw [hmk.1, hmk.2, if_neg (by omega)]
        refine lh_beh M3.1 M3.2.2.2.2.2.2.2.2.2.1 ?_
        refine c_bno rfl M3 (by unfold bto; rw [if_neg F3b.1, hko, if_pos rfl, if_pos (cmq_app ops3 (O3.2.2 rfl)), if_neg F3b.2.1, if_neg F3b.2.2]) (by rw [hmk.2]; omega) (by rw [hmk.2]; omega) (by rw [hmk.2]; omega) (by rw [hmk.2]; omega) (by omega) ?_
        refine lh_e1 M3.1 M3.2.2.2.1 M3.2.2.2.2.2.2.2.1 (by omega) M3.2.2.2.2.2.2.2.2.2.2.2 (by rw [hmk.1]; omega) ?_
        exact kf 1 j rfl h3 s3 T3 f3 M3.1 M3.2.1 M3.2.2.2.1 M3.2.2.2.2.1.2.2.1 mA S3 fA
    · intro fl k e
      subst e
      dsimp only [sb] at hsp
      obtain rfl := Option.some.inj hsp
      exact (kf.tr rfl ME2 (fun _ _ => rfl) FR2 (Nat.le_refl _)) fl k rfl
theorem cm_all {B : Nat → Int} {n : Nat} {lw : Int} {t0 d : Nat} (H : BY B) (hn : n ≤ 300) (hlw : lw = 10 ∨ lw = 11) : ∀ (f m : Nat), m ≤ 9 → CONM B n lw t0 d f m := by
  intro f
  induction f with
  | zero =>
    intro m _ o v i r hsp
    exact absurd hsp (by simp [sP])
  | succ f ih =>
    intro m hm
    match m, hm with
    | 0, _ => exact cm_0 H hn hlw ih
    | 1, _ => exact cm_1 H hn hlw ih
    | 2, _ => exact cm_2 H hn hlw ih
    | 3, _ => exact cm_3 H hn hlw ih
    | 4, _ => exact cm_4 H hn hlw ih
    | 5, _ => exact cm_5 H hn hlw ih
    | 6, _ => exact cm_6 H hn hlw ih
    | 7, _ => exact cm_7 H hn hlw ih
    | 8, _ => exact cm_8 H hn hlw ih
    | 9, _ => exact cm_9 H hn hlw ih
    | m + 10, h => exact absurd h (by omega)
