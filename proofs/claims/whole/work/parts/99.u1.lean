/-! both sides, call by call -/
def RM (L : Nat) (xs : Nat → Int) (h h2 : hc_H) : Prop := INV h2 L xs ∧ h2.1 ≤ h.1 + 30 ∧ h2.2.1 ≤ h.2.1 + 8000
theorem RM.rf {L : Nat} {xs : Nat → Int} {h : hc_H} (I : INV h L xs) : RM L xs h h := ⟨I, Nat.le_add_right _ _, Nat.le_add_right _ _⟩
def PQ (mj : hc_M) (as : List hc_V) (L : Nat) (xs : Nat → Int) (d : Nat) (h : hc_H) (w : List hc_V) (h1 : hc_H) : Prop := ∃ r : Int, w = [xI r] ∧ h1.2.2 0 = .inl (9, L, .inl xs) ∧ (∃ s, h1.2.2 71 = mo s) ∧ hc_wp d mj 0 as [] h1 (fun w2 h2 => w2 = [xI r] ∧ RM L xs h h2)
theorem nin_mem {l : List Nat} {a : Nat} (h : ∀ x ∈ l, x ≠ a) : nin l a = true := by
  induction l with
  | nil => rfl
  | cons x l ih =>
    have hx : a ≠ x := fun q => h x List.mem_cons_self q.symm
    simp only [nin, hc_bne hx, cond_false]
    exact ih (fun y hy => h y (List.mem_cons_of_mem _ hy))
theorem all_91 {l : List Nat} (h : ∀ x ∈ l, x < 91) : l.all (fun x => Nat.blt x 91) = true := by
  rw [List.all_eq_true]
  intro x hx
  rw [Nat.blt_eq]
  exact h x hx
theorem G3.th {h h1 : hc_H} {s s2 : cT} {e : dX} (H : G3 h s e) (T : TH h1 s2) (K : KP 32 36 h h1) : G3 h1 s2 e := ⟨T, (K 32 (by omega) (by omega)).trans H.2.1, (K 33 (by omega) (by omega)).trans H.2.2.1, (K 34 (by omega) (by omega)).trans H.2.2.2.1, (K 35 (by omega) (by omega)).trans H.2.2.2.2.1, (K 36 (by omega) (by omega)).trans H.2.2.2.2.2⟩
theorem G7.a {h h2 : hc_H} {s A A2 T B A' : Nat → Int} (H : G7 h s A A2 T B) (a : h2.2.2 72 = ar 456 A') (K : KP 71 71 h h2) (K2 : KP 73 75 h h2) : G7 h2 s A' A2 T B := ⟨(K 71 (by omega) (by omega)).trans H.1, a, (K2 73 (by omega) (by omega)).trans H.2.2.1, (K2 74 (by omega) (by omega)).trans H.2.2.2.1, (K2 75 (by omega) (by omega)).trans H.2.2.2.2⟩
theorem FLT.me {hr fo pl : Int} {s s2 : Nat → Int} (H : FLT hr fo pl s) (h5 : s2 5 = s 5) (h6 : s2 6 = s 6) : FLT hr fo pl s2 := by
  unfold FLT at H ⊢
  rw [h5, h6]
  exact H
theorem inv_go {h h1 h2 : hc_H} {L : Nat} {xs : Nat → Int} {cs ks : cT} {e ke : dX} {n : Nat} {B s A A2 T : Nat → Int} {hr fo pl : Int} {ftf frf : Nat → Option ef} {ncf : Nat → Nat} {rwf : Nat → Nat → Int} {l1 l2 : List Nat} (g1 : G1 h L xs) (gk : TKC h) (gr : RDC h hr fo pl) (g76 : G76 h) (h91 : 91 ≤ h.1) (F1 : Fr l1 h h1) (hl1 : ∀ x ∈ l1, (22 ≤ x ∧ x ≤ 50) ∨ (58 ≤ x ∧ x ≤ 70)) (F2 : Fr l2 h1 h2) (hl2 : ∀ x ∈ l2, 71 ≤ x ∧ x ≤ 90 ∧ x ≠ 76) (g2 : G2 h1 n B) (g3 : G3 h1 cs e) (g4 : G4 h1 ks ke) (g5n : G5n h1) (g5m : G5m h1) (g7 : G7 h2 s A A2 T B) (gv : MVN h2) (g8n : G8n h2) (g8m : G8m h2) (g8b : G8b h2) (ht : n ≤ 300 ∧ BY B ∧ s 4 = (n : Int)) (hf : FLT hr fo pl s) (pu : PU cs e) (pk : PU ks ke) (ra : RA A cs e) (ra2 : RA A2 ks ke) (ti : TI h cs.tc cs.tx T ftf frf ncf rwf) (kx : KX h cs.tc ks.tc cs.tx ks.tx) : RM L xs h h2 := by
  have k1 : ∀ a, (a < 22 ∨ (50 < a ∧ a < 58) ∨ 70 < a) → h1.2.2 a = h.2.2 a := fun a ha => F1.2.2 a (nin_mem (fun x hx q => by have := hl1 x hx; omega))
  have k2 : ∀ a, (a < 71 ∨ a = 76 ∨ 90 < a) → h2.2.2 a = h1.2.2 a := fun a ha => F2.2.2 a (nin_mem (fun x hx q => by have := hl2 x hx; omega))
  have b1 := all_91 (l := l1) (fun x hx => by have := hl1 x hx; omega)
  have b2 := all_91 (l := l2) (fun x hx => by have := hl2 x hx; omega)
  have f1 := F1.1
  have f2 := F2.1
  have f3 := F1.2.1
  have f4 := F2.2.1
  refine ⟨⟨cs, ks, e, ke, n, B, s, A, A2, T, hr, fo, pl, ftf, frf, ncf, rwf, ?_, ?_, ?_, ?_, ?_, ?_, ?_, ?_, g7, ?_, gv, g8n, g8m, g8b, ht, hf, pu, pk, ra, ra2, (ti.fa F1.fa b1).fa F2.fa b2, (kx.fa F1.fa b1).fa F2.fa b2, by omega⟩, by omega, by omega⟩
  · exact g1.kp (fun a _ y => (k2 a (by omega)).trans (k1 a (by omega)))
  · exact g2.kp (fun a _ y => k2 a (by omega)) (fun a _ y => k2 a (by omega))
  · exact g3.kp (fun a _ y => k2 a (by omega))
  · exact g4.kp (fun a _ y => k2 a (by omega))
  · exact gk.kept (fun a x y => (k2 a (by omega)).trans (k1 a (by omega)))
  · exact g5n.kp (fun a _ y => k2 a (by omega))
  · exact g5m.kp (fun a _ y => k2 a (by omega))
  · exact gr.kept (fun a x y => (k2 a (by omega)).trans (k1 a (by omega)))
  · exact g76.kp (fun a x y => (k2 a (by omega)).trans (k1 a (by omega)))
theorem TI.at2 {h : hc_H} {tc : Int} {tx : Nat → Option Nat} {T : Nat → Int} {ftf frf : Nat → Option ef} {ncf : Nat → Nat} {rwf : Nat → Nat → Int} (H : TI h tc tx T ftf frf ncf rwf) (htc : 0 ≤ tc ∧ tc ≤ 4) {t : Int} : ∃ (ft fr : Option ef) (nc : Nat) (rows : Nat → Int), ((-1 ≤ t ∧ t < tc) → TXQ h (rul tx tc t) ft fr nc rows) ∧ ((-1 ≤ t ∧ t < tc) → MTX T t ft fr) := by
  by_cases ht : -1 ≤ t ∧ t < tc
  · obtain ⟨ft, fr, nc, rows, a, b⟩ := H.at htc ht
    exact ⟨ft, fr, nc, rows, fun _ => a, fun _ => b⟩
  · exact ⟨none, none, 0, fun _ => 0, fun x => absurd x ht, fun x => absurd x ht⟩
set_option maxRecDepth 100000 in
theorem y_folk {d : Nat} {h : hc_H} {L : Nat} {xs : Nat → Int} {v : Int} (I : INV h L xs) : hc_wp (d + 200) mX9_folk 0 [xR 22, xI v] [] h (PQ mX10_folk [xR 71, xI v] L xs (d + 200) h) := by
  have I0 := I
  obtain ⟨cs, ks, e, ke, n, B, s, A, A2, T, hr, fo, pl, ftf, frf, ncf, rwf, g1, g2, g3, g4, gk, g5n, g5m, gr, g7, g76, gv, g8n, g8m, g8b, ⟨hn, hB, e4⟩, hf, pu, pk, ra, ra2, ti, kx, h91⟩ := I
  refine p_folk pu.1 g2.1 g3.1 (fun c => ?_) (fun c1 c2 c3 h1 T1 F1 => ?_)
  · refine ⟨_, rfl, g1.1, ⟨s, g7.1⟩, ?_⟩
    exact c_mfolk pu.1 g7.1 g7.2.1 ra (fun _ => ⟨rfl, RM.rf I0⟩) (fun x1 x2 x3 => absurd c (by omega))
  · have g7a := g7.kp (h2 := h1) (Fr.kp F1 rfl)
    have gva := gv.kp (h2 := h1) (Fr.kp F1 rfl)
    refine ⟨_, rfl, (g1.kp (h2 := h1) (Fr.kp F1 rfl)).1, ⟨s, g7a.1⟩, ?_⟩
    exact c_mfolk pu.1 g7a.1 g7a.2.1 ra (fun c => absurd c (by omega)) (fun _ _ _ h2 A' a1 a2 F2 => ⟨rfl, inv_go g1 gk gr g76 h91 F1 (by decide) F2 (by decide) (g2.kp (Fr.kp F1 rfl) (Fr.kp F1 rfl)) (g3.th T1 (Fr.kp F1 rfl)) (g4.kp (Fr.kp F1 rfl)) (g5n.kp (Fr.kp F1 rfl)) (g5m.kp (Fr.kp F1 rfl)) ((g7.kp (Fr.kp F1 rfl)).a a1 (Fr.kp F2 rfl) (Fr.kp F2 rfl)) ((gv.kp (Fr.kp F1 rfl)).kp (Fr.kp F2 rfl)) ((g8n.kp (Fr.kp F1 rfl)).kp (Fr.kp F2 rfl)) ((g8m.kp (Fr.kp F1 rfl)).kp (Fr.kp F2 rfl)) ((g8b.kp (Fr.kp F1 rfl)).kp (Fr.kp F2 rfl)) ⟨hn, hB, e4⟩ hf (pu.wl c3 c1 c2) pk a2 ra2 ti kx⟩)
set_option maxRecDepth 100000 in
theorem y_weather {d : Nat} {h : hc_H} {L : Nat} {xs : Nat → Int} {r v : Int} (I : INV h L xs) : hc_wp (d + 200) mX9_weather 0 [xR 22, xI r, xI v] [] h (PQ mX10_weather [xR 71, xI r, xI v] L xs (d + 200) h) := by
  have I0 := I
  obtain ⟨cs, ks, e, ke, n, B, s, A, A2, T, hr, fo, pl, ftf, frf, ncf, rwf, g1, g2, g3, g4, gk, g5n, g5m, gr, g7, g76, gv, g8n, g8m, g8b, ⟨hn, hB, e4⟩, hf, pu, pk, ra, ra2, ti, kx, h91⟩ := I
  refine p_weather g2.1 g3.1 (fun c => ?_) (fun c1 c2 h1 T1 F1 => ?_)
  · refine ⟨_, rfl, g1.1, ⟨s, g7.1⟩, ?_⟩
    exact c_mweather pu.1 g7.1 g7.2.1 ra (fun _ => ⟨rfl, RM.rf I0⟩) (fun x1 x2 => absurd c (by omega))
  · have g7a := g7.kp (h2 := h1) (Fr.kp F1 rfl)
    have gva := gv.kp (h2 := h1) (Fr.kp F1 rfl)
    refine ⟨_, rfl, (g1.kp (h2 := h1) (Fr.kp F1 rfl)).1, ⟨s, g7a.1⟩, ?_⟩
    exact c_mweather pu.1 g7a.1 g7a.2.1 ra (fun c => absurd c (by omega)) (fun _ _ h2 A' a1 a2 F2 => ⟨rfl, inv_go g1 gk gr g76 h91 F1 (by decide) F2 (by decide) (g2.kp (Fr.kp F1 rfl) (Fr.kp F1 rfl)) (g3.th T1 (Fr.kp F1 rfl)) (g4.kp (Fr.kp F1 rfl)) (g5n.kp (Fr.kp F1 rfl)) (g5m.kp (Fr.kp F1 rfl)) ((g7.kp (Fr.kp F1 rfl)).a a1 (Fr.kp F2 rfl) (Fr.kp F2 rfl)) ((gv.kp (Fr.kp F1 rfl)).kp (Fr.kp F2 rfl)) ((g8n.kp (Fr.kp F1 rfl)).kp (Fr.kp F2 rfl)) ((g8m.kp (Fr.kp F1 rfl)).kp (Fr.kp F2 rfl)) ((g8b.kp (Fr.kp F1 rfl)).kp (Fr.kp F2 rfl)) ⟨hn, hB, e4⟩ hf (pu.we c1 c2) pk a2 ra2 ti kx⟩)
set_option maxRecDepth 100000 in
theorem y_feed {d : Nat} {h : hc_H} {L : Nat} {xs : Nat → Int} {v1 v2 v3 v4 v5 : Int} (I : INV h L xs) (w1 : -2147483648 ≤ v1 ∧ v1 ≤ 2147483647) (w2 : -2147483648 ≤ v2 ∧ v2 ≤ 2147483647) (w3 : -2147483648 ≤ v3 ∧ v3 ≤ 2147483647) (w4 : -2147483648 ≤ v4 ∧ v4 ≤ 2147483647) (w5 : -2147483648 ≤ v5 ∧ v5 ≤ 2147483647) : hc_wp (d + 200) mX9_feed 0 [xR 22, xI v1, xI v2, xI v3, xI v4, xI v5] [] h (PQ mX10_feed [xR 71, xI v1, xI v2, xI v3, xI v4, xI v5] L xs (d + 200) h) := by
  have I0 := I
  obtain ⟨cs, ks, e, ke, n, B, s, A, A2, T, hr, fo, pl, ftf, frf, ncf, rwf, g1, g2, g3, g4, gk, g5n, g5m, gr, g7, g76, gv, g8n, g8m, g8b, ⟨hn, hB, e4⟩, hf, pu, pk, ra, ra2, ti, kx, h91⟩ := I
  refine p_feed w1 w2 w3 w4 w5 hn g2.1 g2.2 (fun c => ?_) (fun c h1 T1 T2 F1 => ?_)
  · refine ⟨_, rfl, g1.1, ⟨s, g7.1⟩, ?_⟩
    exact c_mfeed g7.1 g7.2.2.2.2 e4 hn (fun _ => ⟨rfl, RM.rf I0⟩) (fun x1 => absurd c (by omega))
  · have g7a := g7.kp (h2 := h1) (Fr.kp F1 rfl)
    have gva := gv.kp (h2 := h1) (Fr.kp F1 rfl)
    refine ⟨_, rfl, (g1.kp (h2 := h1) (Fr.kp F1 rfl)).1, ⟨s, g7a.1⟩, ?_⟩
    exact c_mfeed g7a.1 g7a.2.2.2.2 e4 hn (fun c => absurd c (by omega)) (fun _ h2 s2 a1 a2 a3 a4 F2 => ⟨rfl, inv_go g1 gk gr g76 h91 F1 (by decide) F2 (by decide) ⟨T1, T2⟩ (g3.kp (Fr.kp F1 rfl)) (g4.kp (Fr.kp F1 rfl)) (g5n.kp (Fr.kp F1 rfl)) (g5m.kp (Fr.kp F1 rfl)) ⟨a1, (F2.2.2 72 rfl).trans g7a.2.1, (F2.2.2 73 rfl).trans g7a.2.2.1, (F2.2.2 74 rfl).trans g7a.2.2.2.1, a4⟩ ((gv.kp (Fr.kp F1 rfl)).kp (Fr.kp F2 rfl)) ((g8n.kp (Fr.kp F1 rfl)).kp (Fr.kp F2 rfl)) ((g8m.kp (Fr.kp F1 rfl)).kp (Fr.kp F2 rfl)) ((g8b.kp (Fr.kp F1 rfl)).kp (Fr.kp F2 rfl)) ⟨by omega, hB.b20, a2⟩ (hf.me (a3 5 rfl) (a3 6 rfl)) pu pk ra ra2 ti kx⟩)
set_option maxRecDepth 100000 in
theorem y_end {d : Nat} {h : hc_H} {L : Nat} {xs : Nat → Int} {v : Int} (I : INV h L xs) : hc_wp (d + 200) mX9_end 0 [xR 22, xI v] [] h (PQ mX10_end [xR 71, xI v] L xs (d + 200) h) := by
  have I0 := I
  obtain ⟨cs, ks, e, ke, n, B, s, A, A2, T, hr, fo, pl, ftf, frf, ncf, rwf, g1, g2, g3, g4, gk, g5n, g5m, gr, g7, g76, gv, g8n, g8m, g8b, ⟨hn, hB, e4⟩, hf, pu, pk, ra, ra2, ti, kx, h91⟩ := I
  refine p_end g2.1 (fun c => ?_) (fun c h1 T1 F1 => ?_)
  · refine ⟨_, rfl, g1.1, ⟨s, g7.1⟩, ?_⟩
    exact c_mend g7.1 e4 hn (fun _ => ⟨rfl, RM.rf I0⟩) (fun x1 => absurd c (by omega))
  · obtain ⟨m, hm⟩ : ∃ m : Nat, v = (m : Int) := ⟨Int.toNat v, by omega⟩
    subst hm
    have g7a := g7.kp (h2 := h1) (Fr.kp F1 rfl)
    have gva := gv.kp (h2 := h1) (Fr.kp F1 rfl)
    refine ⟨_, rfl, (g1.kp (h2 := h1) (Fr.kp F1 rfl)).1, ⟨s, g7a.1⟩, ?_⟩
    exact c_mend g7a.1 e4 hn (fun c => absurd c (by omega)) (fun _ h2 a1 F2 => ⟨rfl, inv_go g1 gk gr g76 h91 F1 (by decide) F2 (by decide) ⟨T1, (F1.2.2 70 rfl).trans g2.2⟩ (g3.kp (Fr.kp F1 rfl)) (g4.kp (Fr.kp F1 rfl)) (g5n.kp (Fr.kp F1 rfl)) (g5m.kp (Fr.kp F1 rfl)) ⟨a1, (F2.2.2 72 rfl).trans g7a.2.1, (F2.2.2 73 rfl).trans g7a.2.2.1, (F2.2.2 74 rfl).trans g7a.2.2.2.1, (F2.2.2 75 rfl).trans g7a.2.2.2.2⟩ ((gv.kp (Fr.kp F1 rfl)).kp (Fr.kp F2 rfl)) ((g8n.kp (Fr.kp F1 rfl)).kp (Fr.kp F2 rfl)) ((g8m.kp (Fr.kp F1 rfl)).kp (Fr.kp F2 rfl)) ((g8b.kp (Fr.kp F1 rfl)).kp (Fr.kp F2 rfl)) ⟨by omega, hB, hu_s⟩ (hf.me (hu_n (by omega)) (hu_n (by omega))) pu pk ra ra2 ti kx⟩)
set_option maxRecDepth 100000 in
theorem y_fault {d : Nat} {h : hc_H} {L : Nat} {xs : Nat → Int} {v : Int} (I : INV h L xs) : hc_wp (d + 200) mX9_fault 0 [xR 22, xI v] [] h (PQ mX10_fault [xR 71, xI v] L xs (d + 200) h) := by
  have I0 := I
  obtain ⟨cs, ks, e, ke, n, B, s, A, A2, T, hr, fo, pl, ftf, frf, ncf, rwf, g1, g2, g3, g4, gk, g5n, g5m, gr, g7, g76, gv, g8n, g8m, g8b, ⟨hn, hB, e4⟩, hf, pu, pk, ra, ra2, ti, kx, h91⟩ := I
  refine p_fault g2.1 gr (fun c => ?_) (fun c0 c => ?_) (fun c0 c => ?_) (fun c1 c2 => ?_)
  · have q : s 5 = -1 ∧ s 6 = -1 := by
      rcases hf with q | q
      · exact q.2
      · omega
    refine ⟨_, rfl, g1.1, ⟨s, g7.1⟩, ?_⟩
    exact c_mfault g7.1 (fun _ => ⟨by rw [q.1], RM.rf I0⟩) (fun _ => ⟨by rw [q.2], RM.rf I0⟩) (fun _ _ => ⟨rfl, RM.rf I0⟩)
  · have q : s 5 = fo ∧ s 6 = pl := by
      rcases hf with q | q
      · exact absurd q.1 c0
      · exact q.2
    refine ⟨_, rfl, g1.1, ⟨s, g7.1⟩, ?_⟩
    exact c_mfault g7.1 (fun _ => ⟨by rw [q.1], RM.rf I0⟩) (fun x => absurd x (by omega)) (fun x => absurd c x)
  · have q : s 5 = fo ∧ s 6 = pl := by
      rcases hf with q | q
      · exact absurd q.1 c0
      · exact q.2
    refine ⟨_, rfl, g1.1, ⟨s, g7.1⟩, ?_⟩
    exact c_mfault g7.1 (fun x => absurd x (by omega)) (fun _ => ⟨by rw [q.2], RM.rf I0⟩) (fun _ x => absurd c x)
  · refine ⟨_, rfl, g1.1, ⟨s, g7.1⟩, ?_⟩
    exact c_mfault g7.1 (fun x => absurd x c1) (fun x => absurd x c2) (fun _ _ => ⟨rfl, RM.rf I0⟩)
set_option maxRecDepth 100000 in
theorem y_by {d : Nat} {h : hc_H} {L : Nat} {xs : Nat → Int} {v : Int} (I : INV h L xs) : hc_wp (d + 200) mX9_by 0 [xR 22, xI v] [] h (PQ mX10_by [xR 71, xI v] L xs (d + 200) h) := by
  have I0 := I
  obtain ⟨cs, ks, e, ke, n, B, s, A, A2, T, hr, fo, pl, ftf, frf, ncf, rwf, g1, g2, g3, g4, gk, g5n, g5m, gr, g7, g76, gv, g8n, g8m, g8b, ⟨hn, hB, e4⟩, hf, pu, pk, ra, ra2, ti, kx, h91⟩ := I
  refine p_by pu.2.2.1 g2.1 g3.1 (fun c => ?_) (fun c h1 T1 F1 => ?_)
  · refine ⟨_, rfl, g1.1, ⟨s, g7.1⟩, ?_⟩
    exact c_mby pu.1 g7.1 g7.2.1 ra pu.2.2.1 (fun _ => ⟨rfl, RM.rf I0⟩) (fun x1 => absurd c (by omega))
  · have g7a := g7.kp (h2 := h1) (Fr.kp F1 rfl)
    have gva := gv.kp (h2 := h1) (Fr.kp F1 rfl)
    refine ⟨_, rfl, (g1.kp (h2 := h1) (Fr.kp F1 rfl)).1, ⟨s, g7a.1⟩, ?_⟩
    exact c_mby pu.1 g7a.1 g7a.2.1 ra pu.2.2.1 (fun c => absurd c (by omega)) (fun _ h2 A' a1 a2 F2 => ⟨rfl, inv_go g1 gk gr g76 h91 F1 (by decide) F2 (by decide) (g2.kp (Fr.kp F1 rfl) (Fr.kp F1 rfl)) (g3.th T1 (Fr.kp F1 rfl)) (g4.kp (Fr.kp F1 rfl)) (g5n.kp (Fr.kp F1 rfl)) (g5m.kp (Fr.kp F1 rfl)) ((g7.kp (Fr.kp F1 rfl)).a a1 (Fr.kp F2 rfl) (Fr.kp F2 rfl)) ((gv.kp (Fr.kp F1 rfl)).kp (Fr.kp F2 rfl)) ((g8n.kp (Fr.kp F1 rfl)).kp (Fr.kp F2 rfl)) ((g8m.kp (Fr.kp F1 rfl)).kp (Fr.kp F2 rfl)) ((g8b.kp (Fr.kp F1 rfl)).kp (Fr.kp F2 rfl)) ⟨hn, hB, e4⟩ hf (pu.ru c) pk a2 ra2 ti kx⟩)
set_option maxRecDepth 100000 in
theorem y_grant {d : Nat} {h : hc_H} {L : Nat} {xs : Nat → Int} {a m : Int} (I : INV h L xs) : hc_wp (d + 200) mX9_grant 0 [xR 22, xI a, xI m] [] h (PQ mX10_grant [xR 71, xI a, xI m] L xs (d + 200) h) := by
  have I0 := I
  obtain ⟨cs, ks, e, ke, n, B, s, A, A2, T, hr, fo, pl, ftf, frf, ncf, rwf, g1, g2, g3, g4, gk, g5n, g5m, gr, g7, g76, gv, g8n, g8m, g8b, ⟨hn, hB, e4⟩, hf, pu, pk, ra, ra2, ti, kx, h91⟩ := I
  refine p_grant pu.1 g2.1 g3.1 (fun c => ?_) (fun c1 c2 c3 c4 h1 T1 F1 => ?_)
  · refine ⟨_, rfl, g1.1, ⟨s, g7.1⟩, ?_⟩
    exact c_mgrant pu.1 ra g7.1 g7.2.1 (fun _ => ⟨rfl, RM.rf I0⟩) (fun x1 x2 x3 => absurd ⟨x1, x2, x3⟩ c)
  · have g7a := g7.kp (h2 := h1) (Fr.kp F1 rfl)
    have gva := gv.kp (h2 := h1) (Fr.kp F1 rfl)
    refine ⟨_, rfl, (g1.kp (h2 := h1) (Fr.kp F1 rfl)).1, ⟨s, g7a.1⟩, ?_⟩
    exact c_mgrant pu.1 ra g7a.1 g7a.2.1 (fun c => absurd ⟨c1, c2, c3⟩ c) (fun _ _ _ _ h2 A' a1 a2 F2 => ⟨rfl, inv_go g1 gk gr g76 h91 F1 (by decide) F2 (by decide) (g2.kp (Fr.kp F1 rfl) (Fr.kp F1 rfl)) (g3.th T1 (Fr.kp F1 rfl)) (g4.kp (Fr.kp F1 rfl)) (g5n.kp (Fr.kp F1 rfl)) (g5m.kp (Fr.kp F1 rfl)) ((g7.kp (Fr.kp F1 rfl)).a a1 (Fr.kp F2 rfl) (Fr.kp F2 rfl)) ((gv.kp (Fr.kp F1 rfl)).kp (Fr.kp F2 rfl)) ((g8n.kp (Fr.kp F1 rfl)).kp (Fr.kp F2 rfl)) ((g8m.kp (Fr.kp F1 rfl)).kp (Fr.kp F2 rfl)) ((g8b.kp (Fr.kp F1 rfl)).kp (Fr.kp F2 rfl)) ⟨hn, hB, e4⟩ hf (pu.kep c4) pk a2 ra2 ti kx⟩)
set_option maxRecDepth 100000 in
theorem y_pay {d : Nat} {h : hc_H} {L : Nat} {xs : Nat → Int} {a b p g : Int} (I : INV h L xs) : hc_wp (d + 200) mX9_pay 0 [xR 22, xI a, xI b, xI p, xI g] [] h (PQ mX10_pay [xR 71, xI a, xI b, xI p, xI g, none, none, none] L xs (d + 200) h) := by
  have I0 := I
  obtain ⟨cs, ks, e, ke, n, B, s, A, A2, T, hr, fo, pl, ftf, frf, ncf, rwf, g1, g2, g3, g4, gk, g5n, g5m, gr, g7, g76, gv, g8n, g8m, g8b, ⟨hn, hB, e4⟩, hf, pu, pk, ra, ra2, ti, kx, h91⟩ := I
  obtain ⟨ft, fr, nc, rows, x1, x2⟩ := ti.at pu.2.2.1 pu.2.2.2.1
  refine p_pay pu.1 g2.1 g3.1 rfl x1 (fun c => ?_) (fun c1 c2 c3 c4 pd tl e1 e2 _ c6 h1 T1 F1 => ?_)
  · refine ⟨_, rfl, g1.1, ⟨s, g7.1⟩, ?_⟩
    exact c_mpay pu.1 ra g7.1 g7.2.1 g7.2.2.2.1 gv x2 (fun _ => ⟨rfl, RM.rf I0⟩) (fun y1 y2 y3 y4 => absurd ⟨y1, y2, y3, y4⟩ c)
  · have g7a := g7.kp (h2 := h1) (Fr.kp F1 rfl)
    have gva := gv.kp (h2 := h1) (Fr.kp F1 rfl)
    refine ⟨_, rfl, (g1.kp (h2 := h1) (Fr.kp F1 rfl)).1, ⟨s, g7a.1⟩, ?_⟩
    refine c_mpay pu.1 ra g7a.1 g7a.2.1 g7a.2.2.2.1 gva x2 (fun c => absurd ⟨c1, c2, c3, c4⟩ c) (fun _ _ _ _ pd2 tl2 q1 q2 h2 A' a1 a2 a3 F2 => ?_)
    have z1 : pd2 = pd := q1.trans e1.symm
    subst z1
    have z2 : tl2 = tl := q2.trans e2.symm
    subst z2
    exact ⟨rfl, inv_go g1 gk gr g76 h91 F1 (by decide) F2 (by decide) (g2.kp (Fr.kp F1 rfl) (Fr.kp F1 rfl)) (g3.th T1 (Fr.kp F1 rfl)) (g4.kp (Fr.kp F1 rfl)) (g5n.kp (Fr.kp F1 rfl)) (g5m.kp (Fr.kp F1 rfl)) ((g7.kp (Fr.kp F1 rfl)).a a1 (Fr.kp F2 rfl) (Fr.kp F2 rfl)) a3 ((g8n.kp (Fr.kp F1 rfl)).kp (Fr.kp F2 rfl)) ((g8m.kp (Fr.kp F1 rfl)).kp (Fr.kp F2 rfl)) ((g8b.kp (Fr.kp F1 rfl)).kp (Fr.kp F2 rfl)) ⟨hn, hB, e4⟩ hf (pu.kep c6) pk a2 ra2 ti kx⟩
set_option maxRecDepth 100000 in
theorem y_pass {d : Nat} {h : hc_H} {L : Nat} {xs : Nat → Int} {m : Int} (I : INV h L xs) : hc_wp (d + 200) mX9_pass 0 [xR 22, xI m] [] h (PQ mX10_pass [xR 71, xI m, none, none] L xs (d + 200) h) := by
  have I0 := I
  obtain ⟨cs, ks, e, ke, n, B, s, A, A2, T, hr, fo, pl, ftf, frf, ncf, rwf, g1, g2, g3, g4, gk, g5n, g5m, gr, g7, g76, gv, g8n, g8m, g8b, ⟨hn, hB, e4⟩, hf, pu, pk, ra, ra2, ti, kx, h91⟩ := I
  obtain ⟨ft, fr, nc, rows, x1, x2⟩ := ti.at pu.2.2.1 pu.2.2.2.1
  refine p_pass pu.1 g2.1 g3.1 rfl x1 (fun c => ?_) (fun c1 c2 c3 h1 T1 F1 => ?_)
  · refine ⟨_, rfl, g1.1, ⟨s, g7.1⟩, ?_⟩
    exact c_mpass pu.1 g7.1 g7.2.1 g7.2.2.2.1 gv x2 ra (fun _ => ⟨rfl, RM.rf I0⟩) (fun y1 y2 y3 => absurd c (by omega))
  · have g7a := g7.kp (h2 := h1) (Fr.kp F1 rfl)
    have gva := gv.kp (h2 := h1) (Fr.kp F1 rfl)
    refine ⟨_, rfl, (g1.kp (h2 := h1) (Fr.kp F1 rfl)).1, ⟨s, g7a.1⟩, ?_⟩
    obtain ⟨u1, u2, u3⟩ := pu.dys (fr := fr) c1 c2 c3
    exact c_mpass pu.1 g7a.1 g7a.2.1 g7a.2.2.2.1 gva x2 ra (fun c => absurd c (by omega)) (fun _ _ _ h2 A' a1 a2 a3 F2 => ⟨rfl, inv_go g1 gk gr g76 h91 F1 (by decide) F2 (by decide) (g2.kp (Fr.kp F1 rfl) (Fr.kp F1 rfl)) (g3.th T1 (Fr.kp F1 rfl)) (g4.kp (Fr.kp F1 rfl)) (g5n.kp (Fr.kp F1 rfl)) (g5m.kp (Fr.kp F1 rfl)) ((g7.kp (Fr.kp F1 rfl)).a a1 (Fr.kp F2 rfl) (Fr.kp F2 rfl)) a3 ((g8n.kp (Fr.kp F1 rfl)).kp (Fr.kp F2 rfl)) ((g8m.kp (Fr.kp F1 rfl)).kp (Fr.kp F2 rfl)) ((g8b.kp (Fr.kp F1 rfl)).kp (Fr.kp F2 rfl)) ⟨hn, hB, e4⟩ hf u1 pk a2 ra2 (by rw [u2, u3]; exact ti) (by rw [u2, u3]; exact kx)⟩)
set_option maxRecDepth 100000 in
theorem y_played {d : Nat} {h : hc_H} {L : Nat} {xs : Nat → Int} {v : Int} (I : INV h L xs) : hc_wp (d + 200) mX9_played 0 [xR 22, xI v, none, none] [] h (PQ mX10_played [xR 71, xI v, none] L xs (d + 200) h) := by
  have I0 := I
  obtain ⟨cs, ks, e, ke, n, B, s, A, A2, T, hr, fo, pl, ftf, frf, ncf, rwf, g1, g2, g3, g4, gk, g5n, g5m, gr, g7, g76, gv, g8n, g8m, g8b, ⟨hn, hB, e4⟩, hf, pu, pk, ra, ra2, ti, kx, h91⟩ := I
  obtain ⟨ft, fr, nc, rows, x1, x2⟩ := ti.at pu.2.2.1 pu.2.2.2.1
  refine p_played pu.1 pu.2.2.1 g2.1 g3.1 rfl x1 (fun c => ?_) (fun t ht1 ht2 => ?_)
  · refine ⟨_, rfl, g1.1, ⟨s, g7.1⟩, ?_⟩
    exact c_mplayed pu.1 ra g7.1 g7.2.1 g7.2.2.2.1 gv x2 pu.2.2.1 (fun _ => ⟨rfl, RM.rf I0⟩) (fun t y1 y2 => absurd c (by omega))
  · obtain ⟨ta, b1, b2, b3, b4⟩ := ti t ht2
    obtain ⟨rt, rr, ra0, d1, d2, d3, d4, d5, _⟩ := b2
    refine ⟨ta, rt, rr, ra0, ncf t, rwf t, b1, d1, d4, d5, d2, d3, fun k hk => (b4.2.2 k hk).2.1, fun h1 T1 F1 => ?_⟩
    have g7a := g7.kp (h2 := h1) (Fr.kp F1 rfl)
    have gva := gv.kp (h2 := h1) (Fr.kp F1 rfl)
    refine ⟨_, rfl, (g1.kp (h2 := h1) (Fr.kp F1 rfl)).1, ⟨s, g7a.1⟩, ?_⟩
    obtain ⟨u1, u2, u3⟩ := PU.pl (ft := ft) (fr := fr) (rw_ := rwf t) (ncf t) 0 cs pu
    refine c_mplayed pu.1 ra g7a.1 g7a.2.1 g7a.2.2.2.1 gva x2 pu.2.2.1 (fun c => absurd c (by omega)) (fun t2 y1 y2 => ?_)
    have z : t2 = t := by omega
    subst z
    exact ⟨ncf t2, rwf t2, b4, fun h2 A' a1 a2 a3 F2 => ⟨rfl, inv_go g1 gk gr g76 h91 F1 (by decide) F2 (by decide) (g2.kp (Fr.kp F1 rfl) (Fr.kp F1 rfl)) (g3.th T1 (Fr.kp F1 rfl)) (g4.kp (Fr.kp F1 rfl)) (g5n.kp (Fr.kp F1 rfl)) (g5m.kp (Fr.kp F1 rfl)) ((g7.kp (Fr.kp F1 rfl)).a a1 (Fr.kp F2 rfl) (Fr.kp F2 rfl)) a3 ((g8n.kp (Fr.kp F1 rfl)).kp (Fr.kp F2 rfl)) ((g8m.kp (Fr.kp F1 rfl)).kp (Fr.kp F2 rfl)) ((g8b.kp (Fr.kp F1 rfl)).kp (Fr.kp F2 rfl)) ⟨hn, hB, e4⟩ hf u1 pk a2 ra2 (by rw [u2, u3]; exact ti) (by rw [u2, u3]; exact kx)⟩⟩
set_option maxRecDepth 100000 in
theorem y_undo {d : Nat} {h : hc_H} {L : Nat} {xs : Nat → Int} (I : INV h L xs) : hc_wp (d + 200) mX9_undo 0 [xR 22] [] h (PQ mX10_undo [xR 71, none, none] L xs (d + 200) h) := by
  have I0 := I
  obtain ⟨cs, ks, e, ke, n, B, s, A, A2, T, hr, fo, pl, ftf, frf, ncf, rwf, g1, g2, g3, g4, gk, g5n, g5m, gr, g7, g76, gv, g8n, g8m, g8b, ⟨hn, hB, e4⟩, hf, pu, pk, ra, ra2, ti, kx, h91⟩ := I
  refine p_undo pu.1 g2.1 g3.1 (fun c => ?_) (fun c h1 T1 F1 => ?_)
  · refine ⟨_, rfl, g1.1, ⟨s, g7.1⟩, ?_⟩
    exact c_mundo pu.1 g7.1 g7.2.1 ra (fun _ => ⟨rfl, RM.rf I0⟩) (fun x1 => absurd c (by omega))
  · have g7a := g7.kp (h2 := h1) (Fr.kp F1 rfl)
    have gva := gv.kp (h2 := h1) (Fr.kp F1 rfl)
    refine ⟨_, rfl, (g1.kp (h2 := h1) (Fr.kp F1 rfl)).1, ⟨s, g7a.1⟩, ?_⟩
    exact c_mundo pu.1 g7a.1 g7a.2.1 ra (fun c => absurd c (by omega)) (fun _ h2 A' a1 a2 F2 => ⟨rfl, inv_go g1 gk gr g76 h91 F1 (by decide) F2 (by decide) (g2.kp (Fr.kp F1 rfl) (Fr.kp F1 rfl)) (g3.th T1 (Fr.kp F1 rfl)) (g4.kp (Fr.kp F1 rfl)) (g5n.kp (Fr.kp F1 rfl)) (g5m.kp (Fr.kp F1 rfl)) ((g7.kp (Fr.kp F1 rfl)).a a1 (Fr.kp F2 rfl) (Fr.kp F2 rfl)) ((gv.kp (Fr.kp F1 rfl)).kp (Fr.kp F2 rfl)) ((g8n.kp (Fr.kp F1 rfl)).kp (Fr.kp F2 rfl)) ((g8m.kp (Fr.kp F1 rfl)).kp (Fr.kp F2 rfl)) ((g8b.kp (Fr.kp F1 rfl)).kp (Fr.kp F2 rfl)) ⟨hn, hB, e4⟩ hf (pu.tb c) pk a2 ra2 ti kx⟩)
set_option maxRecDepth 100000 in
theorem y_marks {d : Nat} {h : hc_H} {L : Nat} {xs : Nat → Int} {v : Int} (I : INV h L xs) : hc_wp (d + 200) mX9_marks 0 [xR 22, xI v] [] h (PQ mX10_marks [xR 71, xI v] L xs (d + 200) h) := by
  have I0 := I
  obtain ⟨cs, ks, e, ke, n, B, s, A, A2, T, hr, fo, pl, ftf, frf, ncf, rwf, g1, g2, g3, g4, gk, g5n, g5m, gr, g7, g76, gv, g8n, g8m, g8b, ⟨hn, hB, e4⟩, hf, pu, pk, ra, ra2, ti, kx, h91⟩ := I
  refine p_marks pu.1 g2.1 g3.1 (fun c => ?_) (fun p c1 c2 => ?_) (fun c1 c2 => ?_)
  · refine ⟨_, rfl, g1.1, ⟨s, g7.1⟩, ?_⟩
    exact c_mmarks pu.1 g7.1 g7.2.1 ra (fun _ => ⟨rfl, RM.rf I0⟩) (fun p y1 y2 => absurd c (by omega)) (fun x => absurd c x)
  · refine ⟨_, rfl, g1.1, ⟨s, g7.1⟩, ?_⟩
    refine c_mmarks pu.1 g7.1 g7.2.1 ra (fun c => absurd c (by omega)) (fun q y1 y2 => ?_) (fun _ x => absurd (show 0 ≤ v ∧ v < (cs.nf : Int) by omega) x)
    have z : q = p := by omega
    subst z
    exact ⟨rfl, RM.rf I0⟩
  · refine ⟨_, rfl, g1.1, ⟨s, g7.1⟩, ?_⟩
    exact c_mmarks pu.1 g7.1 g7.2.1 ra (fun c => absurd c c1) (fun q y1 y2 => absurd (show 0 ≤ v ∧ v < (cs.nf : Int) by omega) c2) (fun _ _ => ⟨rfl, RM.rf I0⟩)
set_option maxRecDepth 100000 in
theorem y_share {d : Nat} {h : hc_H} {L : Nat} {xs : Nat → Int} {v t : Int} (I : INV h L xs) : hc_wp (d + 200) mX9_share 0 [xR 22, xI v, xI t, none, none] [] h (PQ mX10_share [xR 71, xI v, xI t, none] L xs (d + 200) h) := by
  have I0 := I
  obtain ⟨cs, ks, e, ke, n, B, s, A, A2, T, hr, fo, pl, ftf, frf, ncf, rwf, g1, g2, g3, g4, gk, g5n, g5m, gr, g7, g76, gv, g8n, g8m, g8b, ⟨hn, hB, e4⟩, hf, pu, pk, ra, ra2, ti, kx, h91⟩ := I
  refine p_share pu.1 g2.1 g3.1 (fun c => ?_) (fun c1 c2 => ?_) (fun c1 c2 => ?_)
  · refine ⟨_, rfl, g1.1, ⟨s, g7.1⟩, ?_⟩
    exact c_mshare pu.1 g7.1 g7.2.1 ra (fun _ => ⟨rfl, RM.rf I0⟩) (fun y1 y2 => absurd c (by omega)) (fun y1 y2 => absurd c (by omega))
  · refine ⟨_, rfl, g1.1, ⟨s, g7.1⟩, ?_⟩
    exact c_mshare pu.1 g7.1 g7.2.1 ra (fun c => absurd c (by omega)) (fun y1 y2 => ⟨rfl, RM.rf I0⟩) (fun y1 y2 => absurd c2 (by omega))
  · refine ⟨_, rfl, g1.1, ⟨s, g7.1⟩, ?_⟩
    exact c_mshare pu.1 g7.1 g7.2.1 ra (fun c => absurd c (by omega)) (fun y1 y2 => absurd c2 (by omega)) (fun y1 y2 => ⟨rfl, RM.rf I0⟩)
