/-! the reference: ASK and ONE -/
set_option maxRecDepth 100000 in
theorem cm_7 {B : Nat → Int} {n : Nat} {lw : Int} {t0 d : Nat} (H : BY B) (hn : n ≤ 300) (hlw : lw = 10 ∨ lw = 11) {f : Nat} (ih : ∀ m, m ≤ 9 → CONM B n lw t0 d f m) : CONM B n lw t0 d (f + 1) 7 := by
  intro o v i r hsp h Q s T fp w w0 mm pre p l M hb hd hm41 hpre0 hmm hnl hlp hna kok kf
  rw [sP_7] at hsp
  have x0 : mx 0 = 0 := rfl
  have x1 : mx 1 = 1 := rfl
  have x2 : mx 2 = 2 := rfl
  have x3 : mx 3 = 1 := rfl
  have x4 : mx 4 = 2 := rfl
  have x5 : mx 5 = 5 := rfl
  have x6 : mx 6 = 4 := rfl
  have x7 : mx 7 = 3 := rfl
  have x8 : mx 8 = 5 := rfl
  have x9 : mx 9 = 4 := rfl
  obtain ⟨rfl, hp0⟩ := hnl rfl
  obtain rfl := hp0 (by decide)
  obtain rfl := hmm (by decide)
  rw [x7] at hb
  have h41 := hm41 rfl
  have hkp : kop p = 41 := kop_41 (a := []) h41 (fun z hz => absurd hz List.not_mem_nil)
  by_cases k22 : tK B n i = 22
  · rw [if_pos k22] at hsp
    have hlt := tK_lt H hn (show tK B n i ≠ 0 by omega)
    have haah : aah ([] ++ p) = true := by
      rw [List.nil_append]
      unfold aah
      rw [hkp]
      match p, hd, h41 with
      | [], _, z => exact absurd z (by decide)
      | x :: r, hd, z =>
        have hx := hd x r rfl
        have hx4 : rkm x < 4 := hx
        by_cases y : 40 ≤ x
        · rw [mkk, if_pos y] at z
          simp [z]
        · have : 1 ≤ rkm x := by
            unfold rkm
            rw [if_neg y]
            repeat' split
            all_goals decide
          simp only [decide_true, Bool.true_and]
          rw [decide_eq_true (show 1 ≤ rkm x ∧ rkm x ≤ 3 by omega)]
          simp
    refine lh_beg M.1 M.2.2.2.2.2.2.2.2.2.1 ?_
    refine c_begin (K := tK B n i) (ops := []) (rest := p) H hn hlw rfl M (fun z hz => absurd hz List.not_mem_nil) (hd.mono (by decide)) ⟨hb.2.2.1, hb.2.2.2.1, by rw [List.nil_append]; omega, by show 0 ≤ (o : Int) + 0; omega, by show (o : Int) + 0 ≤ 8; omega, hb.2.2.2.2.2.2⟩ (fun a1 a2 a3 a4 a5 a6 => absurd (a6 k22) (by rw [haah]; decide)) (fun a1 a2 => absurd a1 (by omega)) (fun a1 a2 => ?_) (fun a1 a2 => absurd a1 (by omega)) (fun a1 a2 h2 s2 T2 M2 SA c1 c2 CD ME2 FR2 => absurd a1 (by omega)) (fun a1 a2 h2 s2 T2 M2 SA c1 c2 CD ME2 FR2 => absurd a1 (by omega)) (fun a1 a2 h2 s2 f2 M2 ME2 FR2 => absurd a1 (by omega)) (fun a1 a2 h2 s2 f2 M2 ME2 FR2 => absurd a1 (by omega)) (fun a1 a2 h2 s2 f2 M2 ME2 FR2 => absurd a1 (by omega)) (fun a1 a3 a2 h2 s2 f2 M2 ME2 FR2 => ?_)
    · have ho : 8 ≤ o := by have : (o : Int) + 0 = 8 := a2; omega
      rw [if_pos ho] at hsp
      obtain rfl := Option.some.inj hsp
      exact lh_f (by decide) (kf 3 i rfl h s T fp M.1 M.2.1 M.2.2.2.1 M.2.2.2.2.1.2.2.1 ME.rf (fun _ _ => rfl) Fr.rf)
    · have ho : ¬ 8 ≤ o := by have : (o : Int) + 0 < 8 := a2; omega
      rw [if_neg ho] at hsp
      obtain ⟨q, hq, hsp⟩ := sb_some hsp
      refine lh_z (fun l2 => ?_)
      have M2b : MST B n h2 s2 T f2 t0 lw (i + 1) w0 ([] ++ 20 :: p) (((o + 1 : Nat) : Int) + 0) 0 := M2.cq (by show (o : Int) + 0 + 1 = _; omega)
      refine ih 7 (by decide) (o + 1) v (i + 1) q hq h2 Q s2 T f2 w0 w0 0 [] (20 :: p) l2 M2b (by rw [x7, List.nil_append, List.length_cons]; rw [List.nil_append] at hb; omega) (HD_c (by decide)) (fun _ => by rw [mkk, if_neg (by decide)]; exact h41) (fun z => absurd z (by decide)) (fun _ => rfl) (fun _ => ⟨rfl, fun _ => rfl⟩) (fun z => absurd z (by decide)) (fun z => absurd z (by decide)) ?_ ?_
      · intro j V e h3 s3 T3 f3 w3 ops3 l3 M3 P3 O3 F3 B3 S3 ME3 FR3
        subst e
        dsimp only [sb] at hsp
        obtain rfl := Option.some.inj hsp
        have O3l := O3.2.1
        rw [x7] at O3l
        have hl5 : (ops3 ++ [(20 : Int)]).length = ops3.length + 1 := List.length_append
        refine kok j (ntv V) rfl h3 s3 T3 f3 w3 (ops3 ++ [20]) l3 ((M3.cp apx).cq (q2 := (o : Int) - ((0 : Nat) : Int) + cnt (ops3 ++ [20])) ?_) (PEN_not P3) ⟨?_, by rw [x7, hl5]; omega, fun _ => cmq_app ops3 (O3.2.2 rfl)⟩ F3 (by rw [← apx]; omega) S3 (ME2.tr ME3 (fun _ z => z)) (FR2.tr FR3 (fun _ z => z))
        · rw [cnt_app, show cnt [20] = 1 from rfl]
          omega
        · intro z hz
          rcases mem_app hz with y | y
          · exact O3.1 z y
          · rw [List.mem_singleton.1 y]
            decide
      · intro fl k e
        subst e
        dsimp only [sb] at hsp
        obtain rfl := Option.some.inj hsp
        exact (kf.tr rfl ME2 (fun _ _ => rfl) FR2 (Nat.le_refl _)) fl k rfl
  · rw [if_neg k22] at hsp
    obtain ⟨q, hq, hsp⟩ := sb_some hsp
    refine ih 2 (by decide) o v i q hq h Q s T fp w0 w0 0 [] p l M (by rw [x2]; omega) (hd.mono (by decide)) (fun z => absurd z (by decide)) (fun z => absurd z (by decide)) (fun _ => rfl) (fun _ => ⟨rfl, fun _ => rfl⟩) (fun z => absurd z (by decide)) (fun _ _ z => absurd z k22) ?_ ?_
    · intro j V e h2 s2 T2 f2 w2 ops2 l2 M2 P2 O2 F2 B2 S2 ME2 FR2
      subst e
      dsimp only [sb] at hsp
      have O2l := O2.2.1
      rw [x2] at O2l
      have F2b : ¬ (46 ≤ tK B n j ∧ tK B n j ≤ 49) := F2
      have hla : (ops2 ++ p).length = ops2.length + p.length := List.length_append
      have hcb := cnt_bd ops2
      have h40 : ∀ z, z ∈ ops2 → z < 40 := fun z hz => rkm_lt (Int.le_trans (by decide) (O2.1 z hz).1)
      have hcq : cmq (ops2 ++ p) = false := by
        rw [cmq_hi ops2 (fun z hz => (O2.1 z hz).1)]
        match p, hd with
        | [], _ => rfl
        | x :: r, hd =>
          have hx4 : rkm x < 4 := hd x r rfl
          rw [cmq, if_neg (by omega)]
          exact decide_eq_false (by omega)
      have hbt : bto (tK B n j) (ops2 ++ p) = cmo (tK B n j) := by
        unfold bto
        rw [if_neg F2b, kop_41 h41 h40, if_pos rfl, if_neg (nt hcq)]
      by_cases c : 40 ≤ tK B n j ∧ tK B n j ≤ 45
      · rw [if_pos c] at hsp
        obtain ⟨q2, hq2, hsp⟩ := sb_some hsp
        have hKv : (40 ≤ tK B n j ∧ tK B n j ≤ 49) ∨ tK B n j = 20 ∨ tK B n j = 21 := by omega
        have hk := kcd_rk hKv
        have hkr : rkm (kcd (tK B n j)) = 4 := by rw [hk.1, if_neg (by omega), if_neg (by omega), if_pos (by omega)]
        have hlt := tK_lt H hn (show tK B n j ≠ 0 by omega)
        have hx : bto (tK B n j) (ops2 ++ p) = kcd (tK B n j) := by
          rw [hbt]
          unfold cmo kcd
          rw [if_pos c, if_neg F2b, if_pos c]
        refine lh_beh M2.1 M2.2.2.2.2.2.2.2.2.2.1 ?_
        refine c_bop (K := tK B n j) (x := kcd (tK B n j)) (ops := ops2) (rest := p) H hn rfl M2 hx hk.2.2.2.1 (fun z hz => by rw [hkr]; exact Int.le_trans (by decide) (O2.1 z hz).1) (by rw [hkr]; exact hd) ⟨B2.2.2.1, by omega, by rw [List.nil_append] at hb; omega, by omega, by omega, hb.2.2.2.2.2.2⟩ ?_
        intro h3 s3 T3 f3 M3 SA CD ME3 FR3
        refine lh_one ?_
        have PCa := P2.pc SA CD
        rw [List.nil_append] at hb
        have TS3 : TSM T2 T3 t0 w0 := SA.ts (by omega) (by omega)
        have M3b : MST B n h3 s3 T3 f3 t0 lw (j + 1) (w2 + ops2.length) ([] ++ kcd (tK B n j) :: p) ((o : Int) + 0) 0 := M3.cq (by omega)
        refine ih 2 (by decide) o v (j + 1) q2 hq2 h3 Q s3 T3 f3 (w2 + ops2.length) (w2 + ops2.length) 0 [] (kcd (tK B n j) :: p) l2 M3b (by rw [x2, List.nil_append, List.length_cons]; omega) (HD_c (by rw [hkr]; decide)) (fun z => absurd z (by decide)) (fun z => absurd z (by decide)) (fun _ => rfl) (fun _ => ⟨rfl, fun _ => rfl⟩) (fun z => absurd z (by decide)) (fun _ _ _ => by unfold aah; simp only [List.nil_append]; rw [hkr, decide_eq_false (show ¬ kcd (tK B n j) = 41 by omega), decide_eq_false (show ¬ ((1 : Int) ≤ 4 ∧ (4 : Int) ≤ 3) by decide)]; simp) ?_ ?_
        · intro j3 V3 e h4 s4 T4 f4 w4 ops4 l4 M4 P4 O4 F4 B4 S4 ME4 FR4
          subst e
          dsimp only [sb] at hsp
          obtain rfl := Option.some.inj hsp
          have O4l := O4.2.1
          rw [x2] at O4l
          have hl5 : (ops4 ++ [kcd (tK B n j)]).length = ops4.length + 1 := List.length_append
          refine kok j3 _ rfl h4 s4 T4 f4 w4 (ops4 ++ [kcd (tK B n j)]) l4 ((M4.cp apx).cq (q2 := (o : Int) - ((0 : Nat) : Int) + cnt (ops4 ++ [kcd (tK B n j)])) (by rw [cnt_k hKv])) ?_ ⟨?_, by rw [x7, hl5]; omega, ?_⟩ F4 (by rw [← apx]; omega) ((S2.tr TS3 (Nat.le_refl _)).tr S4 (by omega)) ((ME2.tr ME3 (fun _ z => z)).tr ME4 (fun _ z => z)) ((FR2.tr FR3 (fun _ z => z)).tr FR4 (fun _ z => z))
          · have hPC : PC lw T4 (t0 + 75) w0 (w2 + ops2.length) V (bkd (tK B n j)) := by
              rw [show bkd (tK B n j) = false from decide_eq_false (by omega)]
              exact PCa.eq (fun x h1 h2 => S4 x (Or.inl h2))
            have hP3 : PEN lw T4 (t0 + 75) (w2 + ops2.length) w4 ops4 V3 (bkd (tK B n j)) := by
              rw [show bkd (tK B n j) = false from decide_eq_false (by omega)]
              exact P4
            have := PEN_bin hPC hP3 B4.2.2.2 hKv
            rw [show bkr (tK B n j) = true from decide_eq_true (by omega)] at this
            exact this
          · intro z hz
            rcases mem_app hz with y | y
            · exact ⟨Int.le_trans (by decide) (O4.1 z y).1, (O4.1 z y).2⟩
            · rw [List.mem_singleton.1 y, hkr]
              decide
          · intro _
            rw [cmq_hi ops4 (fun z hz => (O4.1 z hz).1), cmq, if_neg (by rw [hkr]; decide), hkr]
            rfl
        · intro fl k e
          subst e
          dsimp only [sb] at hsp
          obtain rfl := Option.some.inj hsp
          exact (kf.tr rfl (ME2.tr ME3 (fun _ z => z)) (S2.tr TS3 (Nat.le_refl _)) (FR2.tr FR3 (fun _ z => z)) (by omega)) fl k rfl
      · rw [if_neg c] at hsp
        obtain rfl := Option.some.inj hsp
        have hx : bto (tK B n j) (ops2 ++ p) = -1 := by
          rw [hbt]
          unfold cmo
          rw [if_neg c]
        have hmk := mk_app (p := p) ops2 h40
        rw [List.nil_append] at hb
        refine lh_beh M2.1 M2.2.2.2.2.2.2.2.2.2.1 ?_
        refine c_bno rfl M2 hx (by rw [hmk.1, h41]; omega) (by rw [hmk.1, h41]; omega) (by rw [hcq]; simp) (by rw [hmk.1, h41]; omega) (by omega) ?_
        refine lh_e1 M2.1 M2.2.2.2.1 M2.2.2.2.2.2.2.2.1 (by omega) M2.2.2.2.2.2.2.2.2.2.2.2 ?_ ?_
        · rw [hmk.2]
          have z := (mk_neg p).1
          omega
        · exact kf 1 j rfl h2 s2 T2 f2 M2.1 M2.2.1 M2.2.2.2.1 M2.2.2.2.2.1.2.2.1 ME2 S2 FR2
    · intro fl k e
      subst e
      dsimp only [sb] at hsp
      obtain rfl := Option.some.inj hsp
      exact kf fl k rfl
