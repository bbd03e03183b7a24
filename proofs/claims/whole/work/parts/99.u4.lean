/-! both sides, call by call: a text is read -/
theorem FA.kp {l : List Nat} {c s lo hi : Nat} {h h2 : hc_H} (F : FA c s l h h2) (h91 : 91 ≤ h.1) (hh : Nat.blt hi 91 = true) (hl : l.all (fun x => Nat.blt x lo || Nat.blt hi x) = true) : KP lo hi h h2 := fun a h1 h3 => F.2.2.2 a (by rw [Nat.blt_eq] at hh; omega) (nin_rng hl a h1 h3)
set_option maxRecDepth 100000 in
theorem y_text {d : Nat} {h : hc_H} {L : Nat} {xs : Nat → Int} (I : INV h L xs) : hc_wp (d + 200) mX9_text 0 [xR 22, none] [] h (PQ mX10_text [xR 71] L xs (d + 200) h) := by
  have I0 := I
  obtain ⟨cs, ks, e, ke, n, B, s, A, A2, T, hr, fo, pl, ftf, frf, ncf, rwf, g1, g2, g3, g4, gk, g5n, g5m, gr, g7, g76, gv, g8n, g8m, g8b, ⟨hn, hB, e4⟩, hf, pu, pk, ra, ra2, ti, kx, h91⟩ := I
  have q3 := pu.2.2.1
  obtain ⟨r, hr0⟩ : ∃ r, sTx (tK B n) (tN B n) (fun _ _ _ _ _ => 0) 25 0 0 none none (fun _ => 0) = r := ⟨_, rfl⟩
  obtain ⟨tc, htc⟩ : ∃ tc : Nat, cs.tc = (tc : Int) := ⟨Int.toNat cs.tc, by omega⟩
  obtain ⟨f76, q76⟩ := g76
  refine p_text hB hn h91 q3 g1.2 hr0 g2.1 g3.1 g2.2 gk gr (fun c4 => ?_) (fun c4 fl k er h1 R1 K1 T22 F1 => ?_) (fun c4 nc ft fr st er h1 ta rows b1 R1 K1 hW T22 T1 F1 => ?_)
  · refine ⟨_, rfl, g1.1, ⟨s, g7.1⟩, ?_⟩
    exact c_mtextB hB hn hr0 g7.1 g7.2.1 g7.2.2.2.1 g7.2.2.2.2 q76 e4 ra htc (by omega) (fun _ => ⟨rfl, RM.rf I0⟩) (fun x => absurd x (by omega)) (fun x => absurd x (by omega))
  · have g7a := g7.kp (h2 := h1) (F1.kp h91 rfl rfl)
    refine ⟨_, rfl, (g1.kp (h2 := h1) (F1.kp h91 rfl rfl)).1, ⟨s, g7a.1⟩, ?_⟩
    refine c_mtextB hB hn hr0 g7a.1 g7a.2.1 g7a.2.2.2.1 g7a.2.2.2.2 (((F1.kp (lo := 76) (hi := 76) h91 rfl rfl) 76 (by omega) (by omega)).trans q76) e4 ra htc (by omega) (fun x => absurd x (by omega)) (fun _ nc ft fr st er2 => by have := er.symm.trans er2; cases this) (fun _ fl2 k2 er2 _ h2 s2 T2 f2 a71 a74 a76 hT2 z4 z5 z6 _ F2 => ?_)
    have er3 := er.symm.trans er2
    cases er3
    refine ⟨rfl, ?_⟩
    exact ⟨⟨cs, ks, e, ke, 0, B, s2, A, A2, T2, 1, _, _, ftf, frf, ncf, rwf, (g1.kp (F1.kp h91 rfl rfl)).kp (F2.kp rfl), ⟨(F2.2.2 22 rfl).trans T22, (F2.2.2 70 rfl).trans (((F1.kp (lo := 70) (hi := 70) h91 rfl rfl) 70 (by omega) (by omega)).trans g2.2)⟩, (g3.kp (F1.kp h91 rfl rfl)).kp (F2.kp rfl), (g4.kp (F1.kp h91 rfl rfl)).kp (F2.kp rfl), K1.kept (F2.kp rfl), (g5n.kp (F1.kp h91 rfl rfl)).kp (F2.kp rfl), (g5m.kp (F1.kp h91 rfl rfl)).kp (F2.kp rfl), R1.kept (F2.kp rfl), ⟨a71, (F2.2.2 72 rfl).trans g7a.2.1, (F2.2.2 73 rfl).trans g7a.2.2.1, a74, (F2.2.2 75 rfl).trans g7a.2.2.2.2⟩, ⟨f2, a76⟩, (gv.kp (F1.kp h91 rfl rfl)).kp (F2.kp rfl), (g8n.kp (F1.kp h91 rfl rfl)).kp (F2.kp rfl), (g8m.kp (F1.kp h91 rfl rfl)).kp (F2.kp rfl), (g8b.kp (F1.kp h91 rfl rfl)).kp (F2.kp rfl), ⟨by omega, hB, z4⟩, Or.inr ⟨rfl, z5, z6⟩, pu, pk, ra, ra2, ((ti.fa F1 rfl).fa F2.fa rfl).cg (fun a ha => hT2 a (Or.inl (by omega))), (kx.fa F1 rfl).fa F2.fa rfl, by have := F1.1; have := F2.1; omega⟩, by have := F1.2.1; have := F2.1; omega, by have := F1.2.2.1; have := F2.2.1; omega⟩
  · have g7a := g7.kp (h2 := h1) (F1.kp h91 rfl rfl)
    refine ⟨_, rfl, (g1.kp (h2 := h1) (F1.kp h91 rfl rfl)).1, ⟨s, g7a.1⟩, ?_⟩
    refine c_mtextB hB hn hr0 g7a.1 g7a.2.1 g7a.2.2.2.1 g7a.2.2.2.2 (((F1.kp (lo := 76) (hi := 76) h91 rfl rfl) 76 (by omega) (by omega)).trans q76) e4 ra htc (by omega) (fun x => absurd x (by omega)) (fun _ nc2 ft2 fr2 st2 er2 h2 s2 T2 f2 w A' a71 a72 a74 a76 hRA hnc h24 hw hM hF hT2 z4 z5 z6 _ F2 => ?_) (fun _ fl k er2 => by have := er.symm.trans er2; cases this)
    have er3 := er.symm.trans er2
    cases er3
    refine ⟨by rw [htc], ?_⟩
    have ra3 : RA A' (txS cs ta) e := by
      rw [← htc] at hRA
      exact hRA
    have ti2 : TI h2 (txS cs ta).tc (txS cs ta).tx T2 (hc_u ftf tc ft) (hc_u frf tc fr) (hc_u ncf tc nc) (hc_u rwf tc rows) := fun t ht => by
      have ht2 : (t : Int) < cs.tc + 1 := ht
      by_cases z : t = tc
      · subst z
        refine ⟨ta, ?_, ?_, ?_, ?_⟩
        · show hc_u cs.tx (Int.toNat cs.tc) (some ta) t = some ta
          rw [htc, Int.toNat_natCast]
          exact hu_s
        · rw [hu_s, hu_s, hu_s, hu_s]
          exact b1.fa F2.fa rfl
        · rw [hu_s, hu_s]
          exact Or.inr ⟨t, nc, rfl, by omega, hnc, h24, (TXL_of hM hF hw).1, (TXL_of hM hF hw).2⟩
        · rw [hu_s, hu_s]
          exact TRX_of (hr0.trans er) hM hW hnc h24
      · obtain ⟨ta2, c1, c2, c3, c5⟩ := ti t (by omega)
        refine ⟨ta2, ?_, ?_, ?_, ?_⟩
        · show hc_u cs.tx (Int.toNat cs.tc) (some ta) t = some ta2
          rw [htc, Int.toNat_natCast, hu_n z]
          exact c1
        · rw [hu_n z, hu_n z, hu_n z, hu_n z]
          exact (c2.fa F1 rfl).fa F2.fa rfl
        · rw [hu_n z, hu_n z]
          exact c3.cg (fun a _ y => hT2 a (Or.inl (by omega)))
        · rw [hu_n z, hu_n z]
          exact c5.cg (fun a _ y => hT2 a (Or.inl (by omega)))
    have kxa := (kx.fa F1 rfl).fa F2.fa rfl
    have kx2 : KX h2 (txS cs ta).tc ks.tc (txS cs ta).tx ks.tx := by
      refine ⟨?_, fun t ht => ?_, fun p hp => ?_, kxa.2.2.2⟩
      · show ks.tc ≤ cs.tc + 1
        have := kx.1
        omega
      · show ks.tx t = hc_u cs.tx (Int.toNat cs.tc) (some ta) t
        have := kx.1
        rw [htc, Int.toNat_natCast, hu_n (by omega)]
        exact kx.2.1 t ht
      · show TTB h2 (hc_u cs.tx (Int.toNat cs.tc) (some ta) p)
        rw [htc, Int.toNat_natCast]
        by_cases z : p = tc
        · rw [z, hu_s]
          exact (b1.fa F2.fa rfl).ttb
        · rw [hu_n z]
          exact kxa.2.2.1 p hp
    exact ⟨⟨txS cs ta, ks, e, ke, 0, B, s2, A', A2, T2, 1, 0, -1, hc_u ftf tc ft, hc_u frf tc fr, hc_u ncf tc nc, hc_u rwf tc rows, (g1.kp (F1.kp h91 rfl rfl)).kp (F2.kp rfl), ⟨(F2.2.2 22 rfl).trans T22, (F2.2.2 70 rfl).trans (((F1.kp (lo := 70) (hi := 70) h91 rfl rfl) 70 (by omega) (by omega)).trans g2.2)⟩, (g3.th T1 (F1.kp h91 rfl rfl)).kp (F2.kp rfl), (g4.kp (F1.kp h91 rfl rfl)).kp (F2.kp rfl), K1.kept (F2.kp rfl), (g5n.kp (F1.kp h91 rfl rfl)).kp (F2.kp rfl), (g5m.kp (F1.kp h91 rfl rfl)).kp (F2.kp rfl), R1.kept (F2.kp rfl), ⟨a71, a72, (F2.2.2 73 rfl).trans g7a.2.2.1, a74, (F2.2.2 75 rfl).trans g7a.2.2.2.2⟩, ⟨f2, a76⟩, (gv.kp (F1.kp h91 rfl rfl)).kp (F2.kp rfl), (g8n.kp (F1.kp h91 rfl rfl)).kp (F2.kp rfl), (g8m.kp (F1.kp h91 rfl rfl)).kp (F2.kp rfl), (g8b.kp (F1.kp h91 rfl rfl)).kp (F2.kp rfl), ⟨by omega, hB, z4⟩, Or.inr ⟨rfl, z5, z6⟩, pu.tx c4, pk, ra3, ra2, ti2, kx2, by have := F1.1; have := F2.1; omega⟩, by have := F1.2.1; have := F2.1; omega, by have := F1.2.2.1; have := F2.2.1; omega⟩
