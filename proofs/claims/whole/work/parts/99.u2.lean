/-! both sides, call by call: second part -/
theorem ev_256 {nf ev : Nat} (h : nf ≤ 8) (he : ev + 1 = 2 ^ nf) : ev < 256 := by
  have : 2 ^ nf ≤ 2 ^ 8 := Nat.pow_le_pow_right (by omega) h
  omega
theorem lw_ex {mk : Nat → Int} {nf : Nat} (h : nf ≤ 8) : ∃ lw : Nat → Int, LW lw mk nf nf := ⟨fun j => lw1 mk (j / 8) (j % 8), fun a b h1 h2 h3 => by
  show lw1 mk ((a * 8 + b) / 8) ((a * 8 + b) % 8) = lw1 mk a b
  rw [show (a * 8 + b) / 8 = a by omega, show (a * 8 + b) % 8 = b by omega]⟩
theorem mz_ex {mk : Nat → Int} {nf ev : Nat} (h : nf ≤ 8) (he : ev + 1 = 2 ^ nf) : ∃ lw ls ch : Nat → Int, LW lw mk nf nf ∧ MSQ lw ls ch nf ev := by
  obtain ⟨lw, hl⟩ : ∃ lw : Nat → Int, LW lw mk nf nf := lw_ex h
  exact ⟨lw, (mit lw (fun _ => 0) (fun _ => 0) nf ev).1, (mit lw (fun _ => 0) (fun _ => 0) nf ev).2, hl, mit_ok h ev (ev_256 h he)⟩
set_option maxRecDepth 100000 in
theorem y_owes {d : Nat} {h : hc_H} {L : Nat} {xs : Nat → Int} {u v x : Int} (I : INV h L xs) : hc_wp (d + 200) mX9_owes 0 [xR 22, xI u, xI v, xI x] [] h (PQ mX10_owes [xR 71, xI u, xI v, xI x, none] L xs (d + 200) h) := by
  have I0 := I
  obtain ⟨cs, ks, e, ke, n, B, s, A, A2, T, hr, fo, pl, ftf, frf, ncf, rwf, g1, g2, g3, g4, gk, g5n, g5m, gr, g7, g76, gv, g8n, g8m, g8b, ⟨hn, hB, e4⟩, hf, pu, pk, ra, ra2, ti, kx, h91⟩ := I
  obtain ⟨p1, p2, p3, p4, p5, p6, p7, p8, p9, p10⟩ := pu
  have pu : PU cs e := ⟨p1, p2, p3, p4, p5, p6, p7, p8, p9, p10⟩
  refine p_owes p1 p6 g2.1 g3.1 g3.2.1 g3.2.2.1 g3.2.2.2.1 g3.2.2.2.2.1 (fun c => ?_) (fun c1 c2 c3 c4 h1 T1 F1 => ?_) (fun c1 c2 c3 c4 c5 h1 T1 T2 T3 T4 F1 => ?_)
  · refine ⟨_, rfl, g1.1, ⟨s, g7.1⟩, ?_⟩
    exact c_mowes p1 g7.1 g7.2.1 ra p6 (fun _ => ⟨rfl, RM.rf I0⟩) (fun y1 y2 y3 y4 => absurd c (by omega)) (fun y1 y2 y3 y4 y5 => absurd c (by omega))
  · have g7a := g7.kp (h2 := h1) (Fr.kp F1 rfl)
    have gva := gv.kp (h2 := h1) (Fr.kp F1 rfl)
    refine ⟨_, rfl, (g1.kp (h2 := h1) (Fr.kp F1 rfl)).1, ⟨s, g7a.1⟩, ?_⟩
    exact c_mowes p1 g7a.1 g7a.2.1 ra p6 (fun c => absurd c (by omega)) (fun _ _ _ _ h2 A' a1 a2 F2 => ⟨rfl, inv_go (e := (0, e.2)) g1 gk gr g76 h91 F1 (by decide) F2 (by decide) (g2.kp (Fr.kp F1 rfl) (Fr.kp F1 rfl)) ⟨g3.1.kept (fun a x y => F1.2.2 a (nin_rng (lo := 23) (hi := 31) rfl a x y)), T1, (F1.2.2 33 rfl).trans g3.2.2.1, (F1.2.2 34 rfl).trans g3.2.2.2.1, (F1.2.2 35 rfl).trans g3.2.2.2.2.1, (F1.2.2 36 rfl).trans g3.2.2.2.2.2⟩ (g4.kp (Fr.kp F1 rfl)) (g5n.kp (Fr.kp F1 rfl)) (g5m.kp (Fr.kp F1 rfl)) ((g7.kp (Fr.kp F1 rfl)).a a1 (Fr.kp F2 rfl) (Fr.kp F2 rfl)) ((gv.kp (Fr.kp F1 rfl)).kp (Fr.kp F2 rfl)) ((g8n.kp (Fr.kp F1 rfl)).kp (Fr.kp F2 rfl)) ((g8m.kp (Fr.kp F1 rfl)).kp (Fr.kp F2 rfl)) ((g8b.kp (Fr.kp F1 rfl)).kp (Fr.kp F2 rfl)) ⟨hn, hB, e4⟩ hf pu.oc pk a2 ra2 ti kx⟩) (fun y1 y2 y3 y4 y5 => absurd c4 (by omega))
  · have g7a := g7.kp (h2 := h1) (Fr.kp F1 rfl)
    have gva := gv.kp (h2 := h1) (Fr.kp F1 rfl)
    refine ⟨_, rfl, (g1.kp (h2 := h1) (Fr.kp F1 rfl)).1, ⟨s, g7a.1⟩, ?_⟩
    exact c_mowes p1 g7a.1 g7a.2.1 ra p6 (fun c => absurd c (by omega)) (fun _ _ _ y4 => absurd y4 (by omega)) (fun _ _ _ _ _ h2 A' a1 a2 F2 => ⟨rfl, inv_go (e := (e.1 + 1, hc_u e.2.1 e.1 u, hc_u e.2.2.1 e.1 v, hc_u e.2.2.2.1 e.1 x, e.2.2.2.2)) g1 gk gr g76 h91 F1 (by decide) F2 (by decide) (g2.kp (Fr.kp F1 rfl) (Fr.kp F1 rfl)) ⟨g3.1.kept (fun a x y => F1.2.2 a (nin_rng (lo := 23) (hi := 31) rfl a x y)), T1, T2, T3, T4, (F1.2.2 36 rfl).trans g3.2.2.2.2.2⟩ (g4.kp (Fr.kp F1 rfl)) (g5n.kp (Fr.kp F1 rfl)) (g5m.kp (Fr.kp F1 rfl)) ((g7.kp (Fr.kp F1 rfl)).a a1 (Fr.kp F2 rfl) (Fr.kp F2 rfl)) ((gv.kp (Fr.kp F1 rfl)).kp (Fr.kp F2 rfl)) ((g8n.kp (Fr.kp F1 rfl)).kp (Fr.kp F2 rfl)) ((g8m.kp (Fr.kp F1 rfl)).kp (Fr.kp F2 rfl)) ((g8b.kp (Fr.kp F1 rfl)).kp (Fr.kp F2 rfl)) ⟨hn, hB, e4⟩ hf (pu.ot c5 c1 c2 c3 c4) pk a2 ra2 ti kx⟩)
set_option maxRecDepth 100000 in
theorem y_netted {d : Nat} {h : hc_H} {L : Nat} {xs : Nat → Int} {i t : Int} (I : INV h L xs) : hc_wp (d + 200) mX9_netted 0 [xR 22, xI i, xI t] [] h (PQ mX10_netted [xR 71, xI i, xI t] L xs (d + 200) h) := by
  have I0 := I
  obtain ⟨cs, ks, e, ke, n, B, s, A, A2, T, hr, fo, pl, ftf, frf, ncf, rwf, g1, g2, g3, g4, gk, g5n, g5m, gr, g7, g76, gv, g8n, g8m, g8b, ⟨hn, hB, e4⟩, hf, pu, pk, ra, ra2, ti, kx, h91⟩ := I
  obtain ⟨p1, p2, p3, p4, p5, p6, p7, p8, p9, p10⟩ := pu
  have pu : PU cs e := ⟨p1, p2, p3, p4, p5, p6, p7, p8, p9, p10⟩
  obtain ⟨pn, bl0, sm, mx, py, pe, am0, n1, n2, n3, n4, n5, n6, n7⟩ := g5n
  obtain ⟨Bm, smm, Mm, Pm, m0, m1, m2, m3, m4⟩ := g8n
  refine p_nettedB p6 p7 g2.1 g3.1 g3.2.1 g3.2.2.1 g3.2.2.2.1 g3.2.2.2.2.1 n1 n2 n3 n4 n5 n6 n7 (fun h1 T1 T2 F1 => ?_)
  have g7a := g7.kp (h2 := h1) (Fr.kp F1 rfl)
  have gva := gv.kp (h2 := h1) (Fr.kp F1 rfl)
  refine ⟨_, rfl, (g1.kp (h2 := h1) (Fr.kp F1 rfl)).1, ⟨s, g7a.1⟩, ?_⟩
  have ck := cit_ok (bl := cc 8 (BLE e cs.nf) bl0) (sm := sm) (mo := mx) (opm (BLE e cs.nf) 8) (opm_lt 8 (by omega))
  obtain ⟨b2, s2, o2, w1, w2, w3⟩ := T2
  refine c_mnetted p1 ra p6 p7 p8 p9 (fun p hp => cc_l hp) ck.1 ck.2 g7a.1 g7a.2.1 ((F1.2.2 80 rfl).trans m1) ((F1.2.2 81 rfl).trans m2) ((F1.2.2 82 rfl).trans m3) m0 ((F1.2.2 83 rfl).trans m4) (fun h2 s2 B2 sm2 M2 P2 a1 a2 a3 a4 a5 a6 a7 F2 => ⟨rfl, ?_⟩)
  have g5n : G5n h1 := ⟨_, _, _, _, _, _, _, T1.1, w1, w2, w3, T1.2.1, T1.2.2.1, T1.2.2.2⟩
  have g8n : G8n h2 := ⟨B2, sm2, M2, P2, a6, a3, a4, a5, a7⟩
  exact inv_go g1 gk gr g76 h91 F1 (by decide) F2 (by decide) (g2.kp (Fr.kp F1 rfl) (Fr.kp F1 rfl)) (g3.kp (Fr.kp F1 rfl)) (g4.kp (Fr.kp F1 rfl)) g5n (g5m.kp (Fr.kp F1 rfl)) ⟨a2, (F2.2.2 72 rfl).trans g7a.2.1, (F2.2.2 73 rfl).trans g7a.2.2.1, (F2.2.2 74 rfl).trans g7a.2.2.2.1, (F2.2.2 75 rfl).trans g7a.2.2.2.2⟩ ((gv.kp (Fr.kp F1 rfl)).kp (Fr.kp F2 rfl)) g8n ((g8m.kp (Fr.kp F1 rfl)).kp (Fr.kp F2 rfl)) ((g8b.kp (Fr.kp F1 rfl)).kp (Fr.kp F2 rfl)) ⟨hn, hB, (a1 4 rfl).trans e4⟩ (hf.me (a1 5 rfl) (a1 6 rfl)) pu pk ra ra2 ti kx
set_option maxRecDepth 100000 in
theorem y_married {d : Nat} {h : hc_H} {L : Nat} {xs : Nat → Int} {v : Int} (I : INV h L xs) : hc_wp (d + 200) mX9_married 0 [xR 22, xI v] [] h (PQ mX10_married [xR 71, xI v, none] L xs (d + 200) h) := by
  have I0 := I
  obtain ⟨cs, ks, e, ke, n, B, s, A, A2, T, hr, fo, pl, ftf, frf, ncf, rwf, g1, g2, g3, g4, gk, g5n, g5m, gr, g7, g76, gv, g8n, g8m, g8b, ⟨hn, hB, e4⟩, hf, pu, pk, ra, ra2, ti, kx, h91⟩ := I
  obtain ⟨tg, lw, ls, ch, pt, m0, m1, m2, m3, m4, m5⟩ := g5m
  obtain ⟨pt8, bp8, lw8, T8, F8, q1, q2, q3, q4, q5⟩ := g8m
  refine p_married pu.1 g2.1 g3.1 m1 m2 m3 m4 m5 m0 (fun c => ?_) (fun c h1 lw2 ev b1 b2 b3 b4 b5 b6 b7 b8 F1 => ?_)
  · obtain ⟨ev, hev⟩ : ∃ ev : Nat, ev + 1 = 2 ^ cs.nf := ⟨2 ^ cs.nf - 1, by have := Nat.pow_pos (n := cs.nf) (show 0 < 2 by omega); omega⟩
    obtain ⟨lwz, lsz, chz, hz1, hz2⟩ := mz_ex (mk := cs.mk) (nf := cs.nf) (ev := ev) pu.1.1 hev
    refine ⟨_, rfl, g1.1, ⟨s, g7.1⟩, ?_⟩
    exact c_mmarried (ptc := fun _ => 0) pu.1 ra hev hz1 hz2 g7.1 g7.2.1 q1 q2 q3 q4 q5 (fun _ => ⟨rfl, RM.rf I0⟩) (fun x => absurd x c)
  · have g7a := g7.kp (h2 := h1) (Fr.kp F1 rfl)
    have gva := gv.kp (h2 := h1) (Fr.kp F1 rfl)
    refine ⟨_, rfl, (g1.kp (h2 := h1) (Fr.kp F1 rfl)).1, ⟨s, g7a.1⟩, ?_⟩
    have hev : ev < 256 := ev_256 pu.1.1 b1
    refine c_mmarried (ptc := pt) pu.1 ra b1 b3 (mit_ok (lw := lw2) (ls := ls) (ch := ch) pu.1.1 ev hev) g7a.1 g7a.2.1 ((F1.2.2 84 rfl).trans q1) ((F1.2.2 85 rfl).trans q2) ((F1.2.2 86 rfl).trans q3) ((F1.2.2 87 rfl).trans q4) ((F1.2.2 88 rfl).trans q5) (fun x => absurd c x) (fun _ h2 pt2 bp2 lwm T2 F8b MMx F2 => ⟨rfl, ?_⟩)
    have g5m : G5m h1 := ⟨_, _, _, _, _, b2, b4, b5, b6, b7, b8⟩
    have g8m : G8m h2 := ⟨_, _, _, _, _, MMx.2.2.1, MMx.2.2.2.1, MMx.2.2.2.2.1, MMx.2.2.2.2.2.1, MMx.2.2.2.2.2.2⟩
    exact inv_go g1 gk gr g76 h91 F1 (by decide) F2 (by decide) (g2.kp (Fr.kp F1 rfl) (Fr.kp F1 rfl)) (g3.kp (Fr.kp F1 rfl)) (g4.kp (Fr.kp F1 rfl)) (g5n.kp (Fr.kp F1 rfl)) g5m ((g7.kp (Fr.kp F1 rfl)).kp (Fr.kp F2 rfl)) ((gv.kp (Fr.kp F1 rfl)).kp (Fr.kp F2 rfl)) ((g8n.kp (Fr.kp F1 rfl)).kp (Fr.kp F2 rfl)) g8m ((g8b.kp (Fr.kp F1 rfl)).kp (Fr.kp F2 rfl)) ⟨hn, hB, e4⟩ hf pu pk ra ra2 ti kx
set_option maxRecDepth 100000 in
theorem y_bell {d : Nat} {h : hc_H} {L : Nat} {xs : Nat → Int} {m u : Int} (I : INV h L xs) : hc_wp (d + 200) mX9_bell 0 [xR 22, xI m, xI u] [] h (PQ mX10_bell [xR 71, xI m, xI u, none, none, none, none, none, none] L xs (d + 200) h) := by
  have I0 := I
  obtain ⟨cs, ks, e, ke, n, B, s, A, A2, T, hr, fo, pl, ftf, frf, ncf, rwf, g1, g2, g3, g4, gk, g5n, g5m, gr, g7, g76, gv, g8n, g8m, g8b, ⟨hn, hB, e4⟩, hf, pu, pk, ra, ra2, ti, kx, h91⟩ := I
  obtain ⟨py, cu, q1, q2⟩ := g8b
  refine p_bell pu.1 g2.1 g3.1 (fun c => ?_) (fun c1 c2 c3 => ?_)
  · refine ⟨_, rfl, g1.1, ⟨s, g7.1⟩, ?_⟩
    exact c_mbell pu.1 ra g7.1 g7.2.1 q1 q2 (fun _ => ⟨rfl, RM.rf I0⟩) (fun x1 x2 x3 => absurd ⟨x1, x2, x3⟩ c)
  · refine ⟨_, rfl, g1.1, ⟨s, g7.1⟩, ?_⟩
    refine c_mbell pu.1 ra g7.1 g7.2.1 q1 q2 (fun c => absurd ⟨c1, c2, c3⟩ c) (fun _ _ _ h2 py2 cu2 a1 a2 F2 => ⟨rfl, ?_⟩)
    have g8b : G8b h2 := ⟨_, _, a1, a2⟩
    exact inv_go g1 gk gr g76 h91 (Fr.rf (l := [])) (by decide) F2 (by decide) (g2.kp (Fr.kp (Fr.rf (l := [])) rfl) (Fr.kp (Fr.rf (l := [])) rfl)) (g3.kp (Fr.kp (Fr.rf (l := [])) rfl)) (g4.kp (Fr.kp (Fr.rf (l := [])) rfl)) (g5n.kp (Fr.kp (Fr.rf (l := [])) rfl)) (g5m.kp (Fr.kp (Fr.rf (l := [])) rfl)) ((g7.kp (Fr.kp (Fr.rf (l := [])) rfl)).kp (Fr.kp F2 rfl)) ((gv.kp (Fr.kp (Fr.rf (l := [])) rfl)).kp (Fr.kp F2 rfl)) ((g8n.kp (Fr.kp (Fr.rf (l := [])) rfl)).kp (Fr.kp F2 rfl)) ((g8m.kp (Fr.kp (Fr.rf (l := [])) rfl)).kp (Fr.kp F2 rfl)) g8b ⟨hn, hB, e4⟩ hf pu pk ra ra2 ti kx
set_option maxRecDepth 100000 in
theorem y_cost0 {d : Nat} {h : hc_H} {L : Nat} {xs : Nat → Int} {v t m : Int} (I : INV h L xs) : hc_wp (d + 200) mX9_cost 0 [xR 22, xI v, xI t, xI m, xI 0] [] h (PQ mX10_cost [xR 71, xI v, xI t, xI m, xI 0] L xs (d + 200) h) := by
  have I0 := I
  obtain ⟨cs, ks, e, ke, n, B, s, A, A2, T, hr, fo, pl, ftf, frf, ncf, rwf, g1, g2, g3, g4, gk, g5n, g5m, gr, g7, g76, gv, g8n, g8m, g8b, ⟨hn, hB, e4⟩, hf, pu, pk, ra, ra2, ti, kx, h91⟩ := I
  obtain ⟨ft, fr, nc, rows, x1, x2⟩ := ti.at2 pu.2.2.1 (t := t)
  refine p_cost0 pu.1 pu.2.2.1 g2.1 g3.1 rfl x1 (fun c => ?_) (fun c1 c2 c3 h1 T1 F1 => ?_)
  · refine ⟨_, rfl, g1.1, ⟨s, g7.1⟩, ?_⟩
    exact c_mcost0 pu.1 ra pu.2.2.1 x2 g7.1 g7.2.1 g7.2.2.2.1 gv (fun _ => ⟨rfl, RM.rf I0⟩) (fun y1 y2 y3 => absurd ⟨y1, y2, y3⟩ c)
  · have g7a := g7.kp (h2 := h1) (Fr.kp F1 rfl)
    have gva := gv.kp (h2 := h1) (Fr.kp F1 rfl)
    refine ⟨_, rfl, (g1.kp (h2 := h1) (Fr.kp F1 rfl)).1, ⟨s, g7a.1⟩, ?_⟩
    exact c_mcost0 pu.1 ra pu.2.2.1 x2 g7a.1 g7a.2.1 g7a.2.2.2.1 gva (fun c => absurd ⟨c1, c2, c3⟩ c) (fun _ _ _ h2 a3 F2 => ⟨rfl, inv_go g1 gk gr g76 h91 F1 (by decide) F2 (by decide) (g2.kp (Fr.kp F1 rfl) (Fr.kp F1 rfl)) (g3.th (g3.1.fr F1 T1) (Fr.kp F1 rfl)) (g4.kp (Fr.kp F1 rfl)) (g5n.kp (Fr.kp F1 rfl)) (g5m.kp (Fr.kp F1 rfl)) ((g7.kp (Fr.kp F1 rfl)).kp (Fr.kp F2 rfl)) a3 ((g8n.kp (Fr.kp F1 rfl)).kp (Fr.kp F2 rfl)) ((g8m.kp (Fr.kp F1 rfl)).kp (Fr.kp F2 rfl)) ((g8b.kp (Fr.kp F1 rfl)).kp (Fr.kp F2 rfl)) ⟨hn, hB, e4⟩ hf pu pk ra ra2 ti kx⟩)
set_option maxRecDepth 100000 in
theorem y_best0 {d : Nat} {h : hc_H} {L : Nat} {xs : Nat → Int} {m : Int} (I : INV h L xs) : hc_wp (d + 200) mX9_best 0 [xR 22, xI m, xI 0] [] h (PQ mX10_best [xR 71, xI m, xI 0, none, none, none, none, none] L xs (d + 200) h) := by
  have I0 := I
  obtain ⟨cs, ks, e, ke, n, B, s, A, A2, T, hr, fo, pl, ftf, frf, ncf, rwf, g1, g2, g3, g4, gk, g5n, g5m, gr, g7, g76, gv, g8n, g8m, g8b, ⟨hn, hB, e4⟩, hf, pu, pk, ra, ra2, ti, kx, h91⟩ := I
  have hT : ∀ t : Nat, (t : Int) < cs.tc → MTX T (t : Int) (ftf t) (frf t) := fun t ht => by
    obtain ⟨ta, _, _, b3, _⟩ := ti t ht
    exact b3
  refine p_best0 pu.1 pu.2.2.1 g2.1 g3.1 ti.xs (fun c => ?_) (fun c h1 T1 F1 => ?_)
  · refine ⟨_, rfl, g1.1, ⟨s, g7.1⟩, ?_⟩
    exact c_mbest0 pu.1 ra pu.2.2.1 hT g7.1 g7.2.1 g7.2.2.2.1 gv (fun _ => ⟨rfl, RM.rf I0⟩) (fun y1 => absurd y1 c)
  · have g7a := g7.kp (h2 := h1) (Fr.kp F1 rfl)
    have gva := gv.kp (h2 := h1) (Fr.kp F1 rfl)
    refine ⟨_, rfl, (g1.kp (h2 := h1) (Fr.kp F1 rfl)).1, ⟨s, g7a.1⟩, ?_⟩
    exact c_mbest0 pu.1 ra pu.2.2.1 hT g7a.1 g7a.2.1 g7a.2.2.2.1 gva (fun x => absurd c x) (fun _ h2 a3 F2 => ⟨rfl, inv_go g1 gk gr g76 h91 F1 (by decide) F2 (by decide) (g2.kp (Fr.kp F1 rfl) (Fr.kp F1 rfl)) (g3.th (g3.1.fr F1 T1) (Fr.kp F1 rfl)) (g4.kp (Fr.kp F1 rfl)) (g5n.kp (Fr.kp F1 rfl)) (g5m.kp (Fr.kp F1 rfl)) ((g7.kp (Fr.kp F1 rfl)).kp (Fr.kp F2 rfl)) a3 ((g8n.kp (Fr.kp F1 rfl)).kp (Fr.kp F2 rfl)) ((g8m.kp (Fr.kp F1 rfl)).kp (Fr.kp F2 rfl)) ((g8b.kp (Fr.kp F1 rfl)).kp (Fr.kp F2 rfl)) ⟨hn, hB, e4⟩ hf pu pk ra ra2 ti kx⟩)
set_option maxRecDepth 100000 in
theorem y_cost1 {d : Nat} {h : hc_H} {L : Nat} {xs : Nat → Int} {v t m : Int} (I : INV h L xs) : hc_wp (d + 200) mX9_cost 0 [xR 22, xI v, xI t, xI m, xI 1] [] h (PQ mX10_cost [xR 71, xI v, xI t, xI m, xI 1] L xs (d + 200) h) := by
  have I0 := I
  obtain ⟨cs, ks, e, ke, n, B, s, A, A2, T, hr, fo, pl, ftf, frf, ncf, rwf, g1, g2, g3, g4, gk, g5n, g5m, gr, g7, g76, gv, g8n, g8m, g8b, ⟨hn, hB, e4⟩, hf, pu, pk, ra, ra2, ti, kx, h91⟩ := I
  obtain ⟨ft, fr, nc, rows, x1, x2⟩ := ti.at2 pu.2.2.1 (t := t)
  refine p_cost1 pu.1 pu.2.2.1 g2.1 g3.1 rfl x1 (fun c => ?_) (fun c1 c2 c3 h1 T1 F1 => ?_)
  · refine ⟨_, rfl, g1.1, ⟨s, g7.1⟩, ?_⟩
    exact c_mcost1 pu.1 ra pu.2.2.1 x2 g7.1 g7.2.1 g7.2.2.2.1 gv (fun _ => ⟨rfl, RM.rf I0⟩) (fun y1 y2 y3 => absurd ⟨y1, y2, y3⟩ c)
  · have g7a := g7.kp (h2 := h1) (Fr.kp F1 rfl)
    have gva := gv.kp (h2 := h1) (Fr.kp F1 rfl)
    refine ⟨_, rfl, (g1.kp (h2 := h1) (Fr.kp F1 rfl)).1, ⟨s, g7a.1⟩, ?_⟩
    exact c_mcost1 pu.1 ra pu.2.2.1 x2 g7a.1 g7a.2.1 g7a.2.2.2.1 gva (fun c => absurd ⟨c1, c2, c3⟩ c) (fun _ _ _ h2 a3 F2 => ⟨rfl, inv_go g1 gk gr g76 h91 F1 (by decide) F2 (by decide) (g2.kp (Fr.kp F1 rfl) (Fr.kp F1 rfl)) (g3.th (g3.1.fr F1 T1) (Fr.kp F1 rfl)) (g4.kp (Fr.kp F1 rfl)) (g5n.kp (Fr.kp F1 rfl)) (g5m.kp (Fr.kp F1 rfl)) ((g7.kp (Fr.kp F1 rfl)).kp (Fr.kp F2 rfl)) a3 ((g8n.kp (Fr.kp F1 rfl)).kp (Fr.kp F2 rfl)) ((g8m.kp (Fr.kp F1 rfl)).kp (Fr.kp F2 rfl)) ((g8b.kp (Fr.kp F1 rfl)).kp (Fr.kp F2 rfl)) ⟨hn, hB, e4⟩ hf pu pk ra ra2 ti kx⟩)
set_option maxRecDepth 100000 in
theorem y_best1 {d : Nat} {h : hc_H} {L : Nat} {xs : Nat → Int} {m : Int} (I : INV h L xs) : hc_wp (d + 200) mX9_best 0 [xR 22, xI m, xI 1] [] h (PQ mX10_best [xR 71, xI m, xI 1, none, none, none, none, none] L xs (d + 200) h) := by
  have I0 := I
  obtain ⟨cs, ks, e, ke, n, B, s, A, A2, T, hr, fo, pl, ftf, frf, ncf, rwf, g1, g2, g3, g4, gk, g5n, g5m, gr, g7, g76, gv, g8n, g8m, g8b, ⟨hn, hB, e4⟩, hf, pu, pk, ra, ra2, ti, kx, h91⟩ := I
  have hT : ∀ t : Nat, (t : Int) < cs.tc → MTX T (t : Int) (ftf t) (frf t) := fun t ht => by
    obtain ⟨ta, _, _, b3, _⟩ := ti t ht
    exact b3
  refine p_best1 pu.1 pu.2.2.1 g2.1 g3.1 ti.xs (fun c => ?_) (fun c h1 T1 F1 => ?_)
  · refine ⟨_, rfl, g1.1, ⟨s, g7.1⟩, ?_⟩
    exact c_mbest1 pu.1 ra pu.2.2.1 hT g7.1 g7.2.1 g7.2.2.2.1 gv (fun _ => ⟨rfl, RM.rf I0⟩) (fun y1 => absurd y1 c)
  · have g7a := g7.kp (h2 := h1) (Fr.kp F1 rfl)
    have gva := gv.kp (h2 := h1) (Fr.kp F1 rfl)
    refine ⟨_, rfl, (g1.kp (h2 := h1) (Fr.kp F1 rfl)).1, ⟨s, g7a.1⟩, ?_⟩
    exact c_mbest1 pu.1 ra pu.2.2.1 hT g7a.1 g7a.2.1 g7a.2.2.2.1 gva (fun x => absurd c x) (fun _ h2 a3 F2 => ⟨rfl, inv_go g1 gk gr g76 h91 F1 (by decide) F2 (by decide) (g2.kp (Fr.kp F1 rfl) (Fr.kp F1 rfl)) (g3.th (g3.1.fr F1 T1) (Fr.kp F1 rfl)) (g4.kp (Fr.kp F1 rfl)) (g5n.kp (Fr.kp F1 rfl)) (g5m.kp (Fr.kp F1 rfl)) ((g7.kp (Fr.kp F1 rfl)).kp (Fr.kp F2 rfl)) a3 ((g8n.kp (Fr.kp F1 rfl)).kp (Fr.kp F2 rfl)) ((g8m.kp (Fr.kp F1 rfl)).kp (Fr.kp F2 rfl)) ((g8b.kp (Fr.kp F1 rfl)).kp (Fr.kp F2 rfl)) ⟨hn, hB, e4⟩ hf pu pk ra ra2 ti kx⟩)
