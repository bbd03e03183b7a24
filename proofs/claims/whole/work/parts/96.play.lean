/-! the class: a clause carried out, a text played -/
theorem nmb_at {nc : Nat} {rows : Nat → Int} {k f : Nat} (hk : k < nc) (hf : f < 5) : nmb nc rows (k : Int) (f : Int) = rows (5 * k + f) := by
  unfold nmb
  rw [if_pos (by omega)]
  congr 1
  omega
set_option maxRecDepth 100000 in
theorem c_carry10 {d : Nat} {h : hc_H} {Q : List hc_V → hc_H → Prop} {t nc2 ra : Nat} {rt rr : Option Nat} {rows2 : Nat → Int} {k : Nat} (Ht : h.2.2 t = .inr (5, [xQ rt, xQ rr, xI (nc2 : Int), xR ra])) (Hra : h.2.2 ra = ar (5 * nc2) rows2) (hnc : nc2 ≤ 24) (hk : k < nc2) (e0 : nmb nc2 rows2 (k : Int) 0 = 10) (kt : Q [xI 1] h) : hc_wp (d + 6) mX7_carryOut 0 [xR 23, xR t, xI (k : Int)] [] h Q := by
  refine wp_go rfl rfl ?_
  refine wp_go rfl rfl ?_
  refine wp_go rfl rfl ?_
  refine wp_cv rfl rfl rfl Ht rfl rfl rfl ?_
  refine c_number Ht Hra hnc (by omega) (by omega) ?_
  rw [e0]
  refine wp_go rfl rfl ?_
  refine wp_go rfl rfl ?_
  refine wp_ret rfl rfl ?_
  exact kt
set_option maxRecDepth 100000 in
theorem c_carry11 {d : Nat} {h : hc_H} {Q : List hc_V → hc_H → Prop} {t nc2 ra : Nat} {rt rr : Option Nat} {rows2 : Nat → Int} {k : Nat} (Ht : h.2.2 t = .inr (5, [xQ rt, xQ rr, xI (nc2 : Int), xR ra])) (Hra : h.2.2 ra = ar (5 * nc2) rows2) (hnc : nc2 ≤ 24) (hk : k < nc2) (e0 : nmb nc2 rows2 (k : Int) 0 = 11) (kt : Q [xI 1] h) : hc_wp (d + 6) mX7_carryOut 0 [xR 23, xR t, xI (k : Int)] [] h Q := by
  refine wp_go rfl rfl ?_
  refine wp_go rfl rfl ?_
  refine wp_go rfl rfl ?_
  refine wp_cv rfl rfl rfl Ht rfl rfl rfl ?_
  refine c_number Ht Hra hnc (by omega) (by omega) ?_
  rw [e0]
  refine wp_go rfl rfl ?_
  refine wp_go rfl rfl ?_
  refine wp_ret rfl rfl ?_
  exact kt
theorem c_carry {d : Nat} {h : hc_H} {Q : List hc_V → hc_H → Prop} {s : cT} {q : Option Nat} {ft fr : Option ef} {nc : Nat} {rows : Nat → Int} {t nc2 ra : Nat} {rt rr : Option Nat} {rows2 : Nat → Int} {k : Nat} (H : TH h s) (hs : cOK s) (hq : rul s.tx s.tc s.ru = q) (HT : TXQ h q ft fr nc rows) (Ht : h.2.2 t = .inr (5, [xQ rt, xQ rr, xI (nc2 : Int), xR ra])) (Hra : h.2.2 ra = ar (5 * nc2) rows2) (hnc : nc2 ≤ 24) (hk : k < nc2) (hkd : 10 ≤ rows2 (5 * k) ∧ rows2 (5 * k) ≤ 14) (kn : clS ft fr s (rows2 (5 * k)) (rows2 (5 * k + 1)) (rows2 (5 * k + 2)) (rows2 (5 * k + 3)) (rows2 (5 * k + 4)) = none → Q [xI 0] h) (ks : ∀ s2, clS ft fr s (rows2 (5 * k)) (rows2 (5 * k + 1)) (rows2 (5 * k + 2)) (rows2 (5 * k + 3)) (rows2 (5 * k + 4)) = some s2 → ∀ h2, TH h2 s2 → Fr fl7 h h2 → Q [xI 1] h2) : hc_wp (d + 6) mX7_carryOut 0 [xR 23, xR t, xI (k : Int)] [] h Q := by
  have e0 : nmb nc2 rows2 (k : Int) 0 = rows2 (5 * k) := nmb_at (f := 0) hk (by decide)
  have e1 : nmb nc2 rows2 (k : Int) 1 = rows2 (5 * k + 1) := nmb_at (f := 1) hk (by decide)
  have e2 : nmb nc2 rows2 (k : Int) 2 = rows2 (5 * k + 2) := nmb_at (f := 2) hk (by decide)
  have e3 : nmb nc2 rows2 (k : Int) 3 = rows2 (5 * k + 3) := nmb_at (f := 3) hk (by decide)
  have e4 : nmb nc2 rows2 (k : Int) 4 = rows2 (5 * k + 4) := nmb_at (f := 4) hk (by decide)
  obtain ⟨kd, hz⟩ : ∃ kd, rows2 (5 * k) = kd := ⟨_, rfl⟩
  rw [hz] at e0 kn ks hkd
  have h5 : kd = 10 ∨ kd = 11 ∨ kd = 12 ∨ kd = 13 ∨ kd = 14 := by omega
  rcases h5 with z | z | z | z | z
  · rw [z] at e0 ks
    exact c_carry10 Ht Hra hnc hk e0 (ks s (cl_lo (by decide)) h H Fr.rf)
  · rw [z] at e0 ks
    exact c_carry11 Ht Hra hnc hk e0 (ks s (cl_lo (by decide)) h H Fr.rf)
  · rw [z] at e0 kn ks
    refine c_carry12 (d := d + 1) H hs hq HT Ht Hra hnc (by omega) e0 (fun hno => ?_) (fun A1 A2 A3 A4 pd tl B1 B2 B3 B4 h2 G2 F2 => ?_)
    · rw [e1, e2, e3, e4] at hno
      exact kn (cl_12.trans (if_neg hno))
    · rw [e3] at A1
      rw [e4] at A2
      rw [e3, e4] at A3
      rw [e1, e2] at A4
      rw [e1, e2, e3] at B1 B2
      rw [e3, e4] at G2
      have hpe : pd = pdS s (rows2 (5 * k + 1)) (rows2 (5 * k + 2)) (rows2 (5 * k + 3)) := B1
      have hte : tl = tlS ft s (rows2 (5 * k + 1)) (rows2 (5 * k + 2)) (rows2 (5 * k + 3)) := by
        rw [B2, hpe]
        rfl
      rw [hpe, hte] at G2
      exact ks _ (cl_12.trans (if_pos ⟨A1, A2, A3, A4.1, A4.2.1, A4.2.2⟩)) h2 G2 F2
  · rw [z] at e0 kn ks
    refine c_carry13 (d := d + 1) H hs hq HT Ht Hra hnc (by omega) e0 (fun hno => ?_) (fun A1 A2 A3 A4 h2 G2 F2 => ?_)
    · rw [e1, e2] at hno
      exact kn (cl_13.trans (if_neg hno))
    · rw [e2] at A1
      rw [e1] at A2 A3
      rw [e1, e2] at G2
      exact ks _ (cl_13.trans (if_pos ⟨A1, A2, A3⟩)) h2 G2 F2
  · rw [z] at e0 kn ks
    refine c_carry14 (d := d) H hs hq HT Ht Hra hnc (by omega) e0 (fun hno => ?_) (fun A1 A2 A3 h2 G2 F2 => ?_)
    · rw [e1] at hno
      exact kn (cl_14.trans (if_neg (by omega)))
    · rw [e1] at A1 A2 A3 G2
      exact ks _ (cl_14.trans (if_pos ⟨A1, A2, A3⟩)) h2 G2 F2
