/-! both sides, call by call: third part -/
set_option maxRecDepth 100000 in
theorem y_seen {d : Nat} {h : hc_H} {L : Nat} {xs : Nat → Int} {v : Int} (I : INV h L xs) : hc_wp (d + 200) mX9_seen 0 [xR 22, xI v] [] h (PQ mX10_seen [xR 71, xI v] L xs (d + 200) h) := by
  have I0 := I
  obtain ⟨cs, ks, e, ke, n, B, s, A, A2, T, hr, fo, pl, ftf, frf, ncf, rwf, g1, g2, g3, g4, gk, g5n, g5m, gr, g7, g76, gv, g8n, g8m, g8b, ⟨hn, hB, e4⟩, hf, pu, pk, ra, ra2, ti, kx, h91⟩ := I
  obtain ⟨c, hc⟩ : ∃ c : Nat, cs.sc = (c : Int) := ⟨Int.toNat cs.sc, by have := pu.2.2.2.2.1; omega⟩
  have hc8 : c ≤ 8 := by have := pu.2.2.2.2.1; omega
  refine p_seen hc hc8 g2.1 g3.1 g3.2.2.2.2.2 (fun x h1 T1 F1 => ?_) (fun x1 x2 => ?_) (fun x1 x2 h1 T1 T2 F1 => ?_)
  · have g7a := g7.kp (h2 := h1) (Fr.kp F1 rfl)
    have gva := gv.kp (h2 := h1) (Fr.kp F1 rfl)
    refine ⟨_, rfl, (g1.kp (h2 := h1) (Fr.kp F1 rfl)).1, ⟨s, g7a.1⟩, ?_⟩
    exact c_mseen pu.1 g7a.1 g7a.2.1 ra hc hc8 (fun _ h2 A' a1 a2 F2 => ⟨rfl, inv_go g1 gk gr g76 h91 F1 (by decide) F2 (by decide) (g2.kp (Fr.kp F1 rfl) (Fr.kp F1 rfl)) (g3.th T1 (Fr.kp F1 rfl)) (g4.kp (Fr.kp F1 rfl)) (g5n.kp (Fr.kp F1 rfl)) (g5m.kp (Fr.kp F1 rfl)) ((g7.kp (Fr.kp F1 rfl)).a a1 (Fr.kp F2 rfl) (Fr.kp F2 rfl)) ((gv.kp (Fr.kp F1 rfl)).kp (Fr.kp F2 rfl)) ((g8n.kp (Fr.kp F1 rfl)).kp (Fr.kp F2 rfl)) ((g8m.kp (Fr.kp F1 rfl)).kp (Fr.kp F2 rfl)) ((g8b.kp (Fr.kp F1 rfl)).kp (Fr.kp F2 rfl)) ⟨hn, hB, e4⟩ hf (pu.sc ⟨by omega, by omega⟩) pk a2 ra2 ti kx⟩) (fun y1 => absurd x y1) (fun y1 => absurd x (by omega))
  · refine ⟨_, rfl, g1.1, ⟨s, g7.1⟩, ?_⟩
    exact c_mseen pu.1 g7.1 g7.2.1 ra hc hc8 (fun y => absurd y x1) (fun _ _ => ⟨rfl, RM.rf I0⟩) (fun y1 y2 => absurd x2 (by omega))
  · have g7a := g7.kp (h2 := h1) (Fr.kp F1 rfl)
    have gva := gv.kp (h2 := h1) (Fr.kp F1 rfl)
    refine ⟨_, rfl, (g1.kp (h2 := h1) (Fr.kp F1 rfl)).1, ⟨s, g7a.1⟩, ?_⟩
    exact c_mseen pu.1 g7a.1 g7a.2.1 ra hc hc8 (fun y => absurd y (by omega)) (fun _ y => absurd y (by omega)) (fun _ _ h2 A' a1 a2 F2 => ⟨rfl, inv_go (e := (e.1, e.2.1, e.2.2.1, e.2.2.2.1, hc_u e.2.2.2.2 c v)) g1 gk gr g76 h91 F1 (by decide) F2 (by decide) (g2.kp (Fr.kp F1 rfl) (Fr.kp F1 rfl)) ⟨T1, (F1.2.2 32 rfl).trans g3.2.1, (F1.2.2 33 rfl).trans g3.2.2.1, (F1.2.2 34 rfl).trans g3.2.2.2.1, (F1.2.2 35 rfl).trans g3.2.2.2.2.1, T2⟩ (g4.kp (Fr.kp F1 rfl)) (g5n.kp (Fr.kp F1 rfl)) (g5m.kp (Fr.kp F1 rfl)) ((g7.kp (Fr.kp F1 rfl)).a a1 (Fr.kp F2 rfl) (Fr.kp F2 rfl)) ((gv.kp (Fr.kp F1 rfl)).kp (Fr.kp F2 rfl)) ((g8n.kp (Fr.kp F1 rfl)).kp (Fr.kp F2 rfl)) ((g8m.kp (Fr.kp F1 rfl)).kp (Fr.kp F2 rfl)) ((g8b.kp (Fr.kp F1 rfl)).kp (Fr.kp F2 rfl)) ⟨hn, hB, e4⟩ hf ((pu.sc (c := (c : Int) + 1) ⟨by omega, by omega⟩).se x1) pk a2 ra2 ti kx⟩)
set_option maxRecDepth 100000 in
theorem y_rubbed {d : Nat} {h : hc_H} {L : Nat} {xs : Nat → Int} {u m : Int} (I : INV h L xs) : hc_wp (d + 200) mX9_rubbed 0 [xR 22, xI u, xI m] [] h (PQ mX10_rubbed [xR 71, xI u, xI m, none, none] L xs (d + 200) h) := by
  have I0 := I
  obtain ⟨cs, ks, e, ke, n, B, s, A, A2, T, hr, fo, pl, ftf, frf, ncf, rwf, g1, g2, g3, g4, gk, g5n, g5m, gr, g7, g76, gv, g8n, g8m, g8b, ⟨hn, hB, e4⟩, hf, pu, pk, ra, ra2, ti, kx, h91⟩ := I
  have q5 := pu.2.2.2.2.1
  have q10 := pu.2.2.2.2.2.2.2.2.2
  obtain ⟨ft, fr, nc, rows, x1, x2⟩ := ti.at pu.2.2.1 pu.2.2.2.1
  have hc : cs.sc = ((Int.toNat cs.sc : Nat) : Int) := by omega
  refine p_rubbed pu.1 q10 q5 g2.1 g3.1 g3.2.2.2.2.2 rfl x1 (fun c => ?_) (fun c1 c2 h1 T1 F1 => ?_)
  · refine ⟨_, rfl, g1.1, ⟨s, g7.1⟩, ?_⟩
    exact c_mrubbed pu.1 ra q10 hc (by omega) x2 g7.1 g7.2.1 g7.2.2.2.1 gv (fun _ => ⟨rfl, RM.rf I0⟩) (fun y1 y2 => absurd ⟨y1, y2⟩ c)
  · have g7a := g7.kp (h2 := h1) (Fr.kp F1 rfl)
    have gva := gv.kp (h2 := h1) (Fr.kp F1 rfl)
    refine ⟨_, rfl, (g1.kp (h2 := h1) (Fr.kp F1 rfl)).1, ⟨s, g7a.1⟩, ?_⟩
    exact c_mrubbed pu.1 ra q10 hc (by omega) x2 g7a.1 g7a.2.1 g7a.2.2.2.1 gva (fun c => absurd ⟨c1, c2⟩ c) (fun _ _ h2 a3 F2 => ⟨rfl, inv_go g1 gk gr g76 h91 F1 (by decide) F2 (by decide) (g2.kp (Fr.kp F1 rfl) (Fr.kp F1 rfl)) (g3.th (g3.1.fr F1 T1) (Fr.kp F1 rfl)) (g4.kp (Fr.kp F1 rfl)) (g5n.kp (Fr.kp F1 rfl)) (g5m.kp (Fr.kp F1 rfl)) ((g7.kp (Fr.kp F1 rfl)).kp (Fr.kp F2 rfl)) a3 ((g8n.kp (Fr.kp F1 rfl)).kp (Fr.kp F2 rfl)) ((g8m.kp (Fr.kp F1 rfl)).kp (Fr.kp F2 rfl)) ((g8b.kp (Fr.kp F1 rfl)).kp (Fr.kp F2 rfl)) ⟨hn, hB, e4⟩ hf pu pk ra ra2 ti kx⟩)
set_option maxRecDepth 100000 in
theorem y_image {d : Nat} {h : hc_H} {L : Nat} {xs : Nat → Int} (I : INV h L xs) : hc_wp (d + 200) mX9_image 0 [xR 22] [] h (PQ mX10_image [xR 71] L xs (d + 200) h) := by
  have I0 := I
  obtain ⟨cs, ks, e, ke, n, B, s, A, A2, T, hr, fo, pl, ftf, frf, ncf, rwf, g1, g2, g3, g4, gk, g5n, g5m, gr, g7, g76, gv, g8n, g8m, g8b, ⟨hn, hB, e4⟩, hf, pu, pk, ra, ra2, ti, kx, h91⟩ := I
  have q4 := pu.2.2.1
  refine p_image g2.1 g3 g4 (fun p hp => (kx.2.2.1 p hp).tt) (fun h1 T1 F1 => ?_)
  have g7a := g7.kp (h2 := h1) (Fr.kp F1 rfl)
  have gva := gv.kp (h2 := h1) (Fr.kp F1 rfl)
  refine ⟨_, rfl, (g1.kp (h2 := h1) (Fr.kp F1 rfl)).1, ⟨s, g7a.1⟩, ?_⟩
  refine c_mimage pu.1.2.2.2.2.2.2.2.2.2.2 g7a.1 g7a.2.1 g7a.2.2.1 ra (fun h2 A' a1 a2 F2 => ⟨rfl, ?_⟩)
  have kx2 : KX h cs.tc (lkS cs ks).tc cs.tx (lkS cs ks).tx := ⟨Int.le_refl _, fun t ht => cc_l (by have : (t : Int) < cs.tc := ht; omega), kx.2.2.1, fun p hp => by
    show TTB h (cc 4 cs.tx ks.tx p)
    rw [cc_l hp]
    exact kx.2.2.1 p hp⟩
  exact inv_go g1 gk gr g76 h91 F1 (by decide) F2 (by decide) (g2.kp (Fr.kp F1 rfl) (Fr.kp F1 rfl)) (g3.kp (Fr.kp F1 rfl)) T1 (g5n.kp (Fr.kp F1 rfl)) (g5m.kp (Fr.kp F1 rfl)) ⟨(F2.2.2 71 rfl).trans g7a.1, (F2.2.2 72 rfl).trans g7a.2.1, a1, (F2.2.2 74 rfl).trans g7a.2.2.2.1, (F2.2.2 75 rfl).trans g7a.2.2.2.2⟩ ((gv.kp (Fr.kp F1 rfl)).kp (Fr.kp F2 rfl)) ((g8n.kp (Fr.kp F1 rfl)).kp (Fr.kp F2 rfl)) ((g8m.kp (Fr.kp F1 rfl)).kp (Fr.kp F2 rfl)) ((g8b.kp (Fr.kp F1 rfl)).kp (Fr.kp F2 rfl)) ⟨hn, hB, e4⟩ hf pu pu.lk ra a2.lk ti kx2
set_option maxRecDepth 100000 in
theorem y_back {d : Nat} {h : hc_H} {L : Nat} {xs : Nat → Int} (I : INV h L xs) : hc_wp (d + 200) mX9_back 0 [xR 22] [] h (PQ mX10_back [xR 71] L xs (d + 200) h) := by
  have I0 := I
  obtain ⟨cs, ks, e, ke, n, B, s, A, A2, T, hr, fo, pl, ftf, frf, ncf, rwf, g1, g2, g3, g4, gk, g5n, g5m, gr, g7, g76, gv, g8n, g8m, g8b, ⟨hn, hB, e4⟩, hf, pu, pk, ra, ra2, ti, kx, h91⟩ := I
  have q4 := pk.2.2.1
  refine p_back g2.1 g3 g4 (fun p hp => (kx.2.2.2 p hp).tt) (fun h1 T1 F1 => ?_)
  have g7a := g7.kp (h2 := h1) (Fr.kp F1 rfl)
  have gva := gv.kp (h2 := h1) (Fr.kp F1 rfl)
  refine ⟨_, rfl, (g1.kp (h2 := h1) (Fr.kp F1 rfl)).1, ⟨s, g7a.1⟩, ?_⟩
  refine c_mback pk.1.2.2.2.2.2.2.2.2.2.2 g7a.1 g7a.2.1 g7a.2.2.1 ra2 (fun h2 A' a1 a2 F2 => ⟨rfl, ?_⟩)
  have kx2 : KX h (lkS ks cs).tc ks.tc (lkS ks cs).tx ks.tx := ⟨Int.le_refl _, fun t ht => (cc_l (by omega)).symm, fun p hp => by
    show TTB h (cc 4 ks.tx cs.tx p)
    rw [cc_l hp]
    exact kx.2.2.2 p hp, kx.2.2.2⟩
  have ti2 : TI h (lkS ks cs).tc (lkS ks cs).tx T ftf frf ncf rwf := fun t ht => by
    have ht2 : (t : Int) < ks.tc := ht
    obtain ⟨ta, b1, b2⟩ := ti t (by have := kx.1; omega)
    refine ⟨ta, ?_, b2⟩
    show cc 4 ks.tx cs.tx t = some ta
    rw [cc_l (by omega), kx.2.1 t ht2]
    exact b1
  exact inv_go g1 gk gr g76 h91 F1 (by decide) F2 (by decide) (g2.kp (Fr.kp F1 rfl) (Fr.kp F1 rfl)) T1 (g4.kp (Fr.kp F1 rfl)) (g5n.kp (Fr.kp F1 rfl)) (g5m.kp (Fr.kp F1 rfl)) ((g7.kp (Fr.kp F1 rfl)).a a1 (Fr.kp F2 rfl) (Fr.kp F2 rfl)) ((gv.kp (Fr.kp F1 rfl)).kp (Fr.kp F2 rfl)) ((g8n.kp (Fr.kp F1 rfl)).kp (Fr.kp F2 rfl)) ((g8m.kp (Fr.kp F1 rfl)).kp (Fr.kp F2 rfl)) ((g8b.kp (Fr.kp F1 rfl)).kp (Fr.kp F2 rfl)) ⟨hn, hB, e4⟩ hf pk.lk pk a2.lk ra2 ti2 kx2
set_option maxRecDepth 100000 in
theorem y_about {d : Nat} {h : hc_H} {L : Nat} {xs : Nat → Int} {v : Int} (I : INV h L xs) (hv : -2147483648 ≤ v ∧ v ≤ 2147483647) : hc_wp (d + 200) mX9_about 0 [xR 22, xI v, none] [] h (PQ mX10_about [xR 71, xI v] L xs (d + 200) h) := by
  have I0 := I
  obtain ⟨cs, ks, e, ke, n, B, s, A, A2, T, hr, fo, pl, ftf, frf, ncf, rwf, g1, g2, g3, g4, gk, g5n, g5m, gr, g7, g76, gv, g8n, g8m, g8b, ⟨hn, hB, e4⟩, hf, pu, pk, ra, ra2, ti, kx, h91⟩ := I
  obtain ⟨p1, p2, p3, p4, p5, p6, p7, p8, p9, p10⟩ := pu
  refine p_about hv p1 p6 p7 g2.1 g3.1 g3.2.1 g3.2.2.1 g3.2.2.2.1 g3.2.2.2.2.1 (fun c => ?_) (fun c => ?_) (fun i hi c => ?_) (fun c => ?_) (fun c1 c2 c3 c4 => ?_)
  · refine ⟨_, rfl, g1.1, ⟨s, g7.1⟩, ?_⟩
    exact c_mabout p1 g7.1 g7.2.1 ra p6 p7 p8 (fun _ => ⟨rfl, RM.rf I0⟩) (fun x => absurd x (by have := p1.1; omega)) (fun x => absurd x (by omega)) (fun x => absurd x (by omega)) (fun x => absurd c x)
  · refine ⟨_, rfl, g1.1, ⟨s, g7.1⟩, ?_⟩
    exact c_mabout p1 g7.1 g7.2.1 ra p6 p7 p8 (fun x => absurd x (by have := p1.1; omega)) (fun _ => ⟨rfl, RM.rf I0⟩) (fun x => absurd x (by omega)) (fun x => absurd x (by omega)) (fun _ x => absurd c x)
  · refine ⟨_, rfl, g1.1, ⟨s, g7.1⟩, ?_⟩
    refine c_mabout p1 g7.1 g7.2.1 ra p6 p7 p8 (fun x => absurd x (by omega)) (fun x => absurd x (by omega)) (fun _ => ⟨?_, RM.rf I0⟩) (fun x => absurd x (by omega)) (fun _ _ x => absurd (show 0 ≤ v ∧ v ≤ 9 by omega) x)
    rw [c, Int.toNat_natCast, ab_eq ra i hi]
  · refine ⟨_, rfl, g1.1, ⟨s, g7.1⟩, ?_⟩
    exact c_mabout p1 g7.1 g7.2.1 ra p6 p7 p8 (fun x => absurd x (by omega)) (fun x => absurd x (by omega)) (fun x => absurd x (by omega)) (fun _ => ⟨by rw [e4], RM.rf I0⟩) (fun _ _ _ x => absurd c x)
  · refine ⟨_, rfl, g1.1, ⟨s, g7.1⟩, ?_⟩
    exact c_mabout p1 g7.1 g7.2.1 ra p6 p7 p8 (fun x => absurd x c1) (fun x => absurd x c2) (fun x => absurd x c3) (fun x => absurd x c4) (fun _ _ _ _ => ⟨rfl, RM.rf I0⟩)
