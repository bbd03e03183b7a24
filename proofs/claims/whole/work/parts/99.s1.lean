/-! the class: what it answers, first part -/
abbrev cco (tp : Int) : hc_E := .inr (9, [xR 23, xR 37, xR 51, xR 55, xR 58, xR 65, xR 70, xI tp])
set_option maxRecDepth 100000 in
theorem p_folk {d : Nat} {h : hc_H} {Q : List hc_V → hc_H → Prop} {v : Int} {tp : Int} {cs : cT} (hs : cOK cs) (H22 : h.2.2 22 = cco tp) (H : TH h cs) (kf : (v < 0 ∨ 9 < v ∨ cs.nf = 8) → Q [xI (-1)] h) (kt : 0 ≤ v → v ≤ 9 → cs.nf < 8 → ∀ h2, TH h2 (wlS cs v) → Fr [23, 27, 28] h h2 → Q [xI (cs.nf : Int)] h2) : hc_wp (d + 1) mX9_folk 0 [xR 22, xI v] [] h Q := by
  have hn8 := hs.1
  refine wp_go rfl rfl ?_
  refine wp_go rfl rfl ?_
  refine wp_go rfl rfl ?_
  refine wp_call rfl rfl rfl rfl ?_
  refine c_isWithin  (fun q4 => ?_) (fun q4 => ?_)
  · skip
    refine wp_go rfl rfl ?_
    refine wp_go rfl rfl ?_
    refine e_get rfl H22 rfl rfl ?_
    refine wp_go rfl rfl ?_
    refine wp_cv rfl rfl rfl H.1 rfl rfl rfl ?_
    refine c_welcome H.1 H.2.1 H.2.2.1 (by omega) (fun q17 => ?_) (fun q17 => ?_)
    · skip
      refine wp_ret rfl rfl ?_
      exact kf (by omega)
    · skip
      refine wp_ret rfl rfl ?_
      have hz : Int.toNat (cs.nf : Int) = cs.nf := Int.toNat_natCast _
      rw [hz]
      exact kt (by omega) (by omega) (by omega) _ ⟨rfl, rfl, rfl, H.2.2.2.1, H.2.2.2.2.1, H.2.2.2.2.2.1, H.2.2.2.2.2.2⟩ (((Fr.rf.wr rfl).wr rfl).wr rfl)
  · skip
    refine wp_go rfl rfl ?_
    refine wp_go rfl rfl ?_
    refine wp_ret rfl rfl ?_
    exact kf (by omega)
set_option maxRecDepth 100000 in
theorem p_weather {d : Nat} {h : hc_H} {Q : List hc_V → hc_H → Prop} {r v : Int} {tp : Int} {cs : cT} (H22 : h.2.2 22 = cco tp) (H : TH h cs) (kf : (r < 0 ∨ 10 < r ∨ v < 0 ∨ 9999 < v) → Q [xI 0] h) (kt : 0 ≤ r ∧ r ≤ 10 → 0 ≤ v ∧ v ≤ 9999 → ∀ h2, TH h2 (weS cs r (v * 9 + 23)) → Fr [23] h h2 → Q [xI 1] h2) : hc_wp (d + 1) mX9_weather 0 [xR 22, xI r, xI v] [] h Q := by
  refine wp_go rfl rfl ?_
  refine wp_go rfl rfl ?_
  refine wp_go rfl rfl ?_
  refine wp_call rfl rfl rfl rfl ?_
  refine c_isWithin  (fun q4 => ?_) (fun q4 => ?_)
  · skip
    refine wp_go rfl rfl ?_
    refine wp_go rfl rfl ?_
    refine wp_go rfl rfl ?_
    refine wp_go rfl rfl ?_
    refine wp_call rfl rfl rfl rfl ?_
    refine c_isWithin  (fun q15 => ?_) (fun q15 => ?_)
    · skip
      refine wp_go rfl rfl ?_
      refine wp_go rfl rfl ?_
      refine e_get rfl H22 rfl rfl ?_
      refine wp_go rfl rfl ?_
      refine e_put (fs' := [xR 24, xI (cs.nf : Int), xR 27, xR 28, xI cs.dy, xI r, xI cs.x, xI cs.wt, xR 29, xI cs.tc, xI cs.ru, xR 30, xR 32, xR 36, xI cs.sc]) rfl H.1 rfl rfl ?_
      refine wp_go rfl rfl ?_
      refine e_get rfl H22 rfl rfl ?_
      refine wp_go rfl rfl ?_
      refine wp_go rfl rfl ?_
      refine e_imul rfl (by omega) ?_
      refine wp_go rfl rfl ?_
      refine e_iadd rfl (by omega) ?_
      refine e_put (fs' := [xR 24, xI (cs.nf : Int), xR 27, xR 28, xI cs.dy, xI r, xI ((v * 9) + 23), xI cs.wt, xR 29, xI cs.tc, xI cs.ru, xR 30, xR 32, xR 36, xI cs.sc]) rfl rfl rfl rfl ?_
      refine wp_go rfl rfl ?_
      refine wp_ret rfl rfl ?_
      exact kt (by omega) (by omega) _ ⟨rfl, H.2.1, H.2.2.1, H.2.2.2.1, H.2.2.2.2.1, H.2.2.2.2.2.1, H.2.2.2.2.2.2⟩ ((Fr.rf.wr rfl).wr rfl)
    · skip
      refine wp_go rfl rfl ?_
      refine wp_go rfl rfl ?_
      refine wp_ret rfl rfl ?_
      exact kf (by omega)
  · skip
    refine wp_go rfl rfl ?_
    refine wp_go rfl rfl ?_
    refine wp_ret rfl rfl ?_
    exact kf (by omega)
set_option maxRecDepth 100000 in
theorem p_by {d : Nat} {h : hc_H} {Q : List hc_V → hc_H → Prop} {v : Int} {tp : Int} {cs : cT} (htc : 0 ≤ cs.tc ∧ cs.tc ≤ 4) (H22 : h.2.2 22 = cco tp) (H : TH h cs) (kf : (v < -1 ∨ cs.tc ≤ v) → Q [xI 0] h) (kt : -1 ≤ v ∧ v < cs.tc → ∀ h2, TH h2 (ruS cs v) → Fr [23] h h2 → Q [xI 1] h2) : hc_wp (d + 1) mX9_by 0 [xR 22, xI v] [] h Q := by
  refine wp_go rfl rfl ?_
  refine wp_go rfl rfl ?_
  refine e_ceq rfl (fun c2 => ?_) (fun c2 => ?_)
  · skip
    refine wp_go rfl rfl ?_
    refine e_get rfl H22 rfl rfl ?_
    refine wp_go rfl rfl ?_
    refine e_put (fs' := [xR 24, xI (cs.nf : Int), xR 27, xR 28, xI cs.dy, xI cs.rn, xI cs.x, xI cs.wt, xR 29, xI cs.tc, xI v, xR 30, xR 32, xR 36, xI cs.sc]) rfl H.1 rfl rfl ?_
    refine wp_go rfl rfl ?_
    refine wp_ret rfl rfl ?_
    exact kt (by omega) _ ⟨rfl, H.2.1, H.2.2.1, H.2.2.2.1, H.2.2.2.2.1, H.2.2.2.2.2.1, H.2.2.2.2.2.2⟩ (Fr.rf.wr rfl)
  · skip
    refine wp_go rfl rfl ?_
    refine e_get rfl H22 rfl rfl ?_
    refine wp_go rfl rfl ?_
    refine wp_cv rfl rfl rfl H.1 rfl rfl rfl ?_
    refine c_isText H.1 (fun q10 => ?_) (fun q10 => ?_)
    · skip
      refine wp_go rfl rfl ?_
      refine wp_go rfl rfl ?_
      refine e_get rfl H22 rfl rfl ?_
      refine wp_go rfl rfl ?_
      refine e_put (fs' := [xR 24, xI (cs.nf : Int), xR 27, xR 28, xI cs.dy, xI cs.rn, xI cs.x, xI cs.wt, xR 29, xI cs.tc, xI v, xR 30, xR 32, xR 36, xI cs.sc]) rfl H.1 rfl rfl ?_
      refine wp_go rfl rfl ?_
      refine wp_ret rfl rfl ?_
      exact kt (by omega) _ ⟨rfl, H.2.1, H.2.2.1, H.2.2.2.1, H.2.2.2.2.1, H.2.2.2.2.2.1, H.2.2.2.2.2.2⟩ (Fr.rf.wr rfl)
    · skip
      refine wp_go rfl rfl ?_
      refine wp_go rfl rfl ?_
      refine wp_ret rfl rfl ?_
      exact kf (by omega)
set_option maxRecDepth 100000 in
theorem p_grant {d : Nat} {h : hc_H} {Q : List hc_V → hc_H → Prop} {a n : Int} {tp : Int} {cs : cT} (hs : cOK cs) (H22 : h.2.2 22 = cco tp) (H : TH h cs) (kf : ¬ ((0 ≤ a ∧ a < (cs.nf : Int)) ∧ 1 ≤ n ∧ n ≤ 720720 - smk cs.mk cs.nf) → Q [xI (-1)] h) (kt : (0 ≤ a ∧ a < (cs.nf : Int)) → 1 ≤ n → n ≤ 720720 - smk cs.mk cs.nf → MK cs.nf (hc_u cs.mk (Int.toNat a) (cs.mk (Int.toNat a) + n)) → ∀ h2, TH h2 (kepS cs (hc_u cs.mk (Int.toNat a) (cs.mk (Int.toNat a) + n))) → Fr fl7 h h2 → Q [xI (720720 - smk (hc_u cs.mk (Int.toNat a) (cs.mk (Int.toNat a) + n)) cs.nf)] h2) : hc_wp (d + 3) mX9_grant 0 [xR 22, xI a, xI n] [] h Q := by
  refine wp_go rfl rfl ?_
  refine e_get rfl H22 rfl rfl ?_
  refine wp_go rfl rfl ?_
  refine wp_go rfl rfl ?_
  refine wp_cv rfl rfl rfl H.1 rfl rfl rfl ?_
  refine c_give (d := d) H hs (fun qf => ?_) (fun q1 q2 q3 q4 h2 T2 F2 => ?_)
  · skip
    refine wp_ret rfl rfl ?_
    exact kf qf
  · skip
    refine wp_ret rfl rfl ?_
    exact kt q1 q2 q3 q4 h2 T2 F2
set_option maxRecDepth 100000 in
theorem p_pay {d : Nat} {h : hc_H} {Q : List hc_V → hc_H → Prop} {a b p g : Int} {tp : Int} {cs : cT} {q : Option Nat} {ft fr : Option ef} {nc : Nat} {rows : Nat → Int} (hs : cOK cs) (H22 : h.2.2 22 = cco tp) (H : TH h cs) (hq : rul cs.tx cs.tc cs.ru = q) (HT : TXQ h q ft fr nc rows) (kf : ¬ ((0 ≤ a ∧ a < (cs.nf : Int)) ∧ (0 ≤ b ∧ b < (cs.nf : Int)) ∧ a ≠ b ∧ 1 ≤ p ∧ p ≤ g ∧ g ≤ 99) → Q [xI (-1)] h) (kt : (0 ≤ a ∧ a < (cs.nf : Int)) → (0 ≤ b ∧ b < (cs.nf : Int)) → a ≠ b → (1 ≤ p ∧ p ≤ g ∧ g ≤ 99) → ∀ pd tl : Int, pd = cs.mk (Int.toNat a) * p / g → tl = (if cs.mk (Int.toNat a) * p % g = 0 then 0 else tlv ft a (cs.mk (Int.toNat a)) cs.dy pd (cs.mk (Int.toNat a) * p % g)) → (0 ≤ pd ∧ 0 ≤ tl ∧ pd + tl ≤ cs.mk (Int.toNat a)) → MK cs.nf (hc_u (hc_u cs.mk (Int.toNat a) (cs.mk (Int.toNat a) - (pd + tl))) (Int.toNat b) (hc_u cs.mk (Int.toNat a) (cs.mk (Int.toNat a) - (pd + tl)) (Int.toNat b) + pd)) → ∀ h2, TH h2 (kepS cs (hc_u (hc_u cs.mk (Int.toNat a) (cs.mk (Int.toNat a) - (pd + tl))) (Int.toNat b) (hc_u cs.mk (Int.toNat a) (cs.mk (Int.toNat a) - (pd + tl)) (Int.toNat b) + pd))) → Fr fl7 h h2 → Q [xI pd] h2) : hc_wp (d + 5) mX9_pay 0 [xR 22, xI a, xI b, xI p, xI g] [] h Q := by
  refine wp_go rfl rfl ?_
  refine e_get rfl H22 rfl rfl ?_
  refine wp_go rfl rfl ?_
  refine wp_go rfl rfl ?_
  refine wp_go rfl rfl ?_
  refine wp_go rfl rfl ?_
  refine wp_cv rfl rfl rfl H.1 rfl rfl rfl ?_
  refine c_handOver (d := d) H hs hq HT (fun qf => ?_) (fun q1 q2 q3 q4 pd tl q5 q6 q7 q8 h2 T2 F2 => ?_)
  · skip
    refine wp_ret rfl rfl ?_
    exact kf qf
  · skip
    refine wp_ret rfl rfl ?_
    exact kt q1 q2 q3 q4 pd tl q5 q6 q7 q8 h2 T2 F2
set_option maxRecDepth 100000 in
theorem p_pass {d : Nat} {h : hc_H} {Q : List hc_V → hc_H → Prop} {n : Int} {tp : Int} {cs : cT} {q : Option Nat} {ft fr : Option ef} {nc : Nat} {rows : Nat → Int} (hs : cOK cs) (H22 : h.2.2 22 = cco tp) (H : TH h cs) (hq : rul cs.tx cs.tc cs.ru = q) (HT : TXQ h q ft fr nc rows) (kf : (n < 1 ∨ 99 < n ∨ 999 < cs.dy + n) → Q [xI (-1)] h) (kt : 1 ≤ n → n ≤ 99 → cs.dy + n ≤ 999 → ∀ h2, TH h2 (dysS fr cs (Int.toNat n)) → Fr fl7 h h2 → Q [xI (smk cs.mk cs.nf - smk (dysS fr cs (Int.toNat n)).mk cs.nf)] h2) : hc_wp (d + 6) mX9_pass 0 [xR 22, xI n] [] h Q := by
  refine wp_go rfl rfl ?_
  refine e_get rfl H22 rfl rfl ?_
  refine wp_go rfl rfl ?_
  refine wp_cv rfl rfl rfl H.1 rfl rfl rfl ?_
  refine c_letGoBy (d := d) H hs hq HT (fun qf => ?_) (fun q1 q2 q3 h2 T2 F2 => ?_)
  · skip
    refine wp_ret rfl rfl ?_
    exact kf qf
  · skip
    refine wp_ret rfl rfl ?_
    exact kt q1 q2 q3 h2 T2 F2
set_option maxRecDepth 100000 in
theorem l_play {d : Nat} {h0 : hc_H} {Q : List hc_V → hc_H → Prop} {tp v : Int} {q : Option Nat} {ft fr : Option ef} {nc n2 ta ra : Nat} {rt rr : Option Nat} {rows rows2 : Nat → Int} {r : Int × cT} (hnc : n2 ≤ 24) (h91 : 91 ≤ ta) (h91r : 91 ≤ ra) (hkd : ∀ k, k < n2 → 10 ≤ rows2 (5 * k) ∧ rows2 (5 * k) ≤ 14) (k : ∀ h2, TH h2 r.2 → Fr fl7 h0 h2 → Q [xI r.1] h2) : ∀ (n j : Nat) (cs : cT) (h : hc_H), (j ≤ n2 ∧ n2 < j + n) → plS ft fr rows2 (n2 - j) j cs = r → cOK cs → rul cs.tx cs.tc cs.ru = q → h.2.2 22 = cco tp → TH h cs → TXQ h q ft fr nc rows → h.2.2 ta = .inr (5, [xQ rt, xQ rr, xI (n2 : Int), xR ra]) → h.2.2 ra = ar (5 * n2) rows2 → Fr fl7 h0 h → hc_wp (d + 7) mX9_played 18 [xR 22, xI v, xR ta, xI (j : Int)] [] h Q := by
  intro n
  induction n with
  | zero =>
    intro j cs h hj
    exact absurd hj (by omega)
  | succ n ih =>
    intro j cs h hj hr hs hq H22 H HT Ht Hra HF
    refine wp_go rfl rfl ?_
    refine wp_go rfl rfl ?_
    refine e_get rfl Ht rfl rfl ?_
    refine e_cge rfl (fun c23 => ?_) (fun c23 => ?_)
    · skip
      refine wp_go rfl rfl ?_
      refine wp_ret rfl rfl ?_
      rw [← hr, plS_e (by omega)] at k
      exact k h H HF
    · skip
      refine wp_go rfl rfl ?_
      refine e_get rfl H22 rfl rfl ?_
      refine wp_go rfl rfl ?_
      refine wp_go rfl rfl ?_
      refine wp_cv rfl rfl rfl H.1 rfl rfl rfl ?_
      refine c_carry (d := d) (k := j) H hs hq HT Ht Hra hnc (by omega) (hkd j (by omega)) (fun hno => ?_) (fun s2 hs2 h2 T2 F2 => ?_)
      · skip
        refine wp_go rfl rfl ?_
        refine wp_go rfl rfl ?_
        refine wp_ret rfl rfl ?_
        rw [← hr, plS_n (by omega) hno] at k
        exact k h H HF
      · skip
        refine wp_go rfl rfl ?_
        refine e_inc (L' := [xR 22, xI v, xR ta, xI ((j : Int) + 1)]) rfl rfl (by omega) rfl ?_
        refine wp_go rfl rfl ?_
        have hok := cl_ok hs hs2
        exact ih (j + 1) s2 h2 (by omega) ((plS_c (by omega) hs2).symm.trans hr) hok.1 (by rw [hok.2.1.1, hok.2.1.2.1, hok.2.1.2.2.1]; exact hq) ((F2.2.2 22 rfl).trans H22) T2 (HT.kept (F2.big rfl)) ((F2.2.2 ta (nin_big rfl h91)).trans Ht) ((F2.2.2 ra (nin_big rfl h91r)).trans Hra) (HF.tr F2 (fun _ z => z))
set_option maxRecDepth 100000 in
theorem p_played {d : Nat} {h : hc_H} {Q : List hc_V → hc_H → Prop} {v : Int} {tp : Int} {cs : cT} {q : Option Nat} {ft fr : Option ef} {nc : Nat} {rows : Nat → Int} (hs : cOK cs) (htc : 0 ≤ cs.tc ∧ cs.tc ≤ 4) (H22 : h.2.2 22 = cco tp) (H : TH h cs) (hq : rul cs.tx cs.tc cs.ru = q) (HT : TXQ h q ft fr nc rows) (kx : (v < 0 ∨ cs.tc ≤ v) → Q [xI (-2)] h) (kt : ∀ t : Nat, v = (t : Int) → (t : Int) < cs.tc → ∃ (ta : Nat) (rt rr : Option Nat) (ra n2 : Nat) (rows2 : Nat → Int), cs.tx t = some ta ∧ h.2.2 ta = .inr (5, [xQ rt, xQ rr, xI (n2 : Int), xR ra]) ∧ h.2.2 ra = ar (5 * n2) rows2 ∧ n2 ≤ 24 ∧ 91 ≤ ta ∧ 91 ≤ ra ∧ (∀ k, k < n2 → 10 ≤ rows2 (5 * k) ∧ rows2 (5 * k) ≤ 14) ∧ ∀ h2, TH h2 (plS ft fr rows2 n2 0 cs).2 → Fr fl7 h h2 → Q [xI (plS ft fr rows2 n2 0 cs).1] h2) : hc_wp (d + 7) mX9_played 0 [xR 22, xI v, none, none] [] h Q := by
  refine wp_go rfl rfl ?_
  refine e_get rfl H22 rfl rfl ?_
  refine wp_go rfl rfl ?_
  refine wp_cv rfl rfl rfl H.1 rfl rfl rfl ?_
  refine c_textAt H.1 H.2.2.2.1 (fun q5 => ?_) (fun q5 => ?_)
  · skip
    obtain ⟨t, hv⟩ : ∃ t : Nat, v = (t : Int) := ⟨Int.toNat v, by omega⟩
    subst hv
    obtain ⟨ta, rt, rr, ra, n2, rows2, e1, Ht, Hra, h24, h91, h91r, hkd, kk⟩ := kt t rfl (by omega)
    rw [Int.toNat_natCast, e1]
    refine e_astn (L' := [xR 22, xI (t : Int), xR ta, none]) rfl rfl rfl ?_
    refine wp_go rfl rfl ?_
    refine wp_go rfl rfl ?_
    refine wp_go rfl rfl ?_
    refine e_istn (L' := [xR 22, xI (t : Int), xR ta, xI 0]) rfl rfl rfl ?_
    exact l_play h24 h91 h91r hkd kk (n2 + 1) 0 cs h (by omega) rfl hs hq H22 H HT Ht Hra Fr.rf
  · skip
    refine e_astn (L' := [xR 22, xI v, xN, none]) rfl rfl rfl ?_
    refine wp_go rfl rfl ?_
    refine wp_go rfl rfl ?_
    refine wp_go rfl rfl ?_
    refine wp_ret rfl rfl ?_
    exact kx (by omega)
set_option maxRecDepth 100000 in
theorem p_undo {d : Nat} {h : hc_H} {Q : List hc_V → hc_H → Prop} {tp : Int} {cs : cT} (hs : cOK cs) (H22 : h.2.2 22 = cco tp) (H : TH h cs) (kf : cs.ct = 0 → Q [xI (-1)] h) (kt : 0 < cs.ct → ∀ h2, TH h2 (tbS cs) → Fr fl7 h h2 → Q [xI (cs.ct - 1)] h2) : hc_wp (d + 3) mX9_undo 0 [xR 22] [] h Q := by
  refine wp_go rfl rfl ?_
  refine e_get rfl H22 rfl rfl ?_
  refine wp_cv rfl rfl rfl H.1 rfl rfl rfl ?_
  refine c_takeBk (d := d) H hs (fun q => ?_) (fun q h2 T2 F2 => ?_)
  · skip
    refine wp_ret rfl rfl ?_
    exact kf q
  · skip
    refine wp_ret rfl rfl ?_
    exact kt q h2 T2 F2
set_option maxRecDepth 100000 in
theorem p_marks {d : Nat} {h : hc_H} {Q : List hc_V → hc_H → Prop} {v : Int} {tp : Int} {cs : cT} (hs : cOK cs) (H22 : h.2.2 22 = cco tp) (H : TH h cs) (kb : v = -1 → Q [xI (720720 - smk cs.mk cs.nf)] h) (kp : ∀ p : Nat, v = (p : Int) → p < cs.nf → Q [xI (cs.mk p)] h) (kx : v ≠ -1 → ¬ (0 ≤ v ∧ v < (cs.nf : Int)) → Q [xI (-2)] h) : hc_wp (d + 2) mX9_marks 0 [xR 22, xI v] [] h Q := by
  have hn8 := hs.1
  refine wp_go rfl rfl ?_
  refine wp_go rfl rfl ?_
  refine e_cne rfl (fun c2 => ?_) (fun c2 => ?_)
  · skip
    refine wp_go rfl rfl ?_
    refine e_get rfl H22 rfl rfl ?_
    refine wp_go rfl rfl ?_
    refine wp_cv rfl rfl rfl H.1 rfl rfl rfl ?_
    refine c_isFolk H.1 (fun q18 => ?_) (fun q18 => ?_)
    · skip
      refine wp_go rfl rfl ?_
      refine wp_go rfl rfl ?_
      refine e_get rfl H22 rfl rfl ?_
      refine e_get rfl H.1 rfl rfl ?_
      refine wp_go rfl rfl ?_
      refine e_aldE (p := Int.toNat v) rfl H.2.1 rfl ⟨by omega, by omega⟩ ?_
      refine wp_go rfl rfl ?_
      refine wp_ret rfl rfl ?_
      exact kp (Int.toNat v) (by omega) (by omega)
    · skip
      refine wp_go rfl rfl ?_
      refine wp_go rfl rfl ?_
      refine wp_ret rfl rfl ?_
      exact kx (by omega) (by omega)
  · skip
    refine wp_go rfl rfl ?_
    refine e_get rfl H22 rfl rfl ?_
    refine wp_cv rfl rfl rfl H.1 rfl rfl rfl ?_
    refine c_box (d := d) H.1 H.2.1 hs.1 hs.2.1.1 ?_
    refine wp_ret rfl rfl ?_
    exact kb (by omega)
theorem lw_gcd {m : Nat} : lwn m ≠ 0 ∧ 720720 / lwn m = Nat.gcd m 720720 ∧ 1 ≤ Nat.gcd m 720720 := by
  have h1 : Nat.gcd 720720 m ∣ 720720 := Nat.gcd_dvd_left _ _
  have h2 : 0 < Nat.gcd 720720 m := Nat.gcd_pos_of_pos_left _ (by decide)
  refine ⟨?_, ?_, by rw [Nat.gcd_comm]; exact h2⟩
  · unfold lwn
    have := Nat.div_pos (Nat.le_of_dvd (by decide) h1) h2
    omega
  · unfold lwn
    rw [Nat.div_div_self h1 (by decide), Nat.gcd_comm]
set_option maxRecDepth 100000 in
theorem p_share {d : Nat} {h : hc_H} {Q : List hc_V → hc_H → Prop} {v t : Int} {tp : Int} {cs : cT} (hs : cOK cs) (H22 : h.2.2 22 = cco tp) (H : TH h cs) (kx : (¬ (v = -1 ∨ (0 ≤ v ∧ v < (cs.nf : Int))) ∨ t < 0 ∨ 1 < t) → Q [xI (-2)] h) (k0 : (v = -1 ∨ (0 ≤ v ∧ v < (cs.nf : Int))) → t = 0 → Q [xI ((mwv cs v / Nat.gcd (mwv cs v) 720720 : Nat) : Int)] h) (k1 : (v = -1 ∨ (0 ≤ v ∧ v < (cs.nf : Int))) → t = 1 → Q [xI ((lwn (mwv cs v) : Nat) : Int)] h) : hc_wp (d + 3) mX9_share 0 [xR 22, xI v, xI t, none, none] [] h Q := by
  have hn8 := hs.1
  have hsn := smk_nf hs
  refine wp_go rfl rfl ?_
  refine wp_go rfl rfl ?_
  refine wp_cv rfl rfl rfl H22 rfl rfl rfl ?_
  refine p_marks (d := d) hs H22 H (fun q2 => ?_) (fun p q2 q3 => ?_) (fun q2 q3 => ?_)
  · skip
    have hmw : (720720 - smk cs.mk cs.nf) = ((mwv cs v : Nat) : Int) := by
      unfold mwv
      rw [if_pos (by omega)]
      omega
    rw [hmw]
    have hle := mwv_le hs (w := v) (by omega)
    refine e_istn (L' := [xR 22, xI v, xI t, xI ((mwv cs v : Nat) : Int), none]) rfl rfl rfl ?_
    refine wp_go rfl rfl ?_
    refine e_iflt rfl (fun c7 => absurd c7 (by omega)) (fun c7 => ?_)
    refine wp_go rfl rfl ?_
    refine wp_go rfl rfl ?_
    refine wp_go rfl rfl ?_
    refine wp_call rfl rfl rfl rfl ?_
    refine c_isWithin  (fun q13 => ?_) (fun q13 => ?_)
    · skip
      refine wp_go rfl rfl ?_
      refine wp_go rfl rfl ?_
      refine wp_call rfl rfl rfl rfl ?_
      refine c_lowerNumber (d := d + 1) (n := mwv cs v) hle ?_
      have hlg := lw_gcd (m := mwv cs v)
      have hll := lwn_le (mwv cs v)
      refine e_ist (L' := [xR 22, xI v, xI t, xI ((mwv cs v : Nat) : Int), xI ((lwn (mwv cs v) : Nat) : Int)]) rfl rfl rfl ?_
      refine wp_go rfl rfl ?_
      refine wp_go rfl rfl ?_
      refine e_cne rfl (fun c30 => ?_) (fun c30 => ?_)
      · skip
        refine wp_go rfl rfl ?_
        refine e_ldc 720720 rfl rfl ?_
        refine wp_go rfl rfl ?_
        have dv1 : Int.tdiv 720720 ((lwn (mwv cs v) : Nat) : Int) = ((Nat.gcd (mwv cs v) 720720 : Nat) : Int) := by rw [← hlg.2.1]; exact Int.ofNat_tdiv 720720 (lwn (mwv cs v))
        have hgl : Nat.gcd (mwv cs v) 720720 ≤ 720720 := Nat.gcd_le_right _ (by decide)
        refine e_idiv rfl (by omega) (by rw [dv1]; omega) ?_
        rw [dv1]
        have dv2 : Int.tdiv ((mwv cs v : Nat) : Int) ((Nat.gcd (mwv cs v) 720720 : Nat) : Int) = ((mwv cs v / Nat.gcd (mwv cs v) 720720 : Nat) : Int) := Int.ofNat_tdiv _ _
        have hdl : mwv cs v / Nat.gcd (mwv cs v) 720720 ≤ mwv cs v := Nat.div_le_self _ _
        refine e_idiv rfl (by omega) (by rw [dv2]; generalize mwv cs v / Nat.gcd (mwv cs v) 720720 = z at hdl ⊢; omega) ?_
        rw [dv2]
        refine wp_ret rfl rfl ?_
        exact k0 (by omega) (by omega)
      · skip
        refine wp_go rfl rfl ?_
        refine wp_go rfl rfl ?_
        refine wp_ret rfl rfl ?_
        exact k1 (by omega) (by omega)
    · skip
      refine wp_go rfl rfl ?_
      refine wp_go rfl rfl ?_
      refine wp_ret rfl rfl ?_
      exact kx (by omega)
  · skip
    have hpb := hs.2.1.1 p (by omega)
    have hmw : cs.mk p = ((mwv cs v : Nat) : Int) := by
      unfold mwv
      rw [if_neg (by omega), q2, Int.toNat_natCast]
      omega
    rw [hmw]
    have hle := mwv_le hs (w := v) (by omega)
    refine e_istn (L' := [xR 22, xI v, xI t, xI ((mwv cs v : Nat) : Int), none]) rfl rfl rfl ?_
    refine wp_go rfl rfl ?_
    refine e_iflt rfl (fun c7 => absurd c7 (by omega)) (fun c7 => ?_)
    refine wp_go rfl rfl ?_
    refine wp_go rfl rfl ?_
    refine wp_go rfl rfl ?_
    refine wp_call rfl rfl rfl rfl ?_
    refine c_isWithin  (fun q13 => ?_) (fun q13 => ?_)
    · skip
      refine wp_go rfl rfl ?_
      refine wp_go rfl rfl ?_
      refine wp_call rfl rfl rfl rfl ?_
      refine c_lowerNumber (d := d + 1) (n := mwv cs v) hle ?_
      have hlg := lw_gcd (m := mwv cs v)
      have hll := lwn_le (mwv cs v)
      refine e_ist (L' := [xR 22, xI v, xI t, xI ((mwv cs v : Nat) : Int), xI ((lwn (mwv cs v) : Nat) : Int)]) rfl rfl rfl ?_
      refine wp_go rfl rfl ?_
      refine wp_go rfl rfl ?_
      refine e_cne rfl (fun c30 => ?_) (fun c30 => ?_)
      · skip
        refine wp_go rfl rfl ?_
        refine e_ldc 720720 rfl rfl ?_
        refine wp_go rfl rfl ?_
        have dv1 : Int.tdiv 720720 ((lwn (mwv cs v) : Nat) : Int) = ((Nat.gcd (mwv cs v) 720720 : Nat) : Int) := by rw [← hlg.2.1]; exact Int.ofNat_tdiv 720720 (lwn (mwv cs v))
        have hgl : Nat.gcd (mwv cs v) 720720 ≤ 720720 := Nat.gcd_le_right _ (by decide)
        refine e_idiv rfl (by omega) (by rw [dv1]; omega) ?_
        rw [dv1]
        have dv2 : Int.tdiv ((mwv cs v : Nat) : Int) ((Nat.gcd (mwv cs v) 720720 : Nat) : Int) = ((mwv cs v / Nat.gcd (mwv cs v) 720720 : Nat) : Int) := Int.ofNat_tdiv _ _
        have hdl : mwv cs v / Nat.gcd (mwv cs v) 720720 ≤ mwv cs v := Nat.div_le_self _ _
        refine e_idiv rfl (by omega) (by rw [dv2]; generalize mwv cs v / Nat.gcd (mwv cs v) 720720 = z at hdl ⊢; omega) ?_
        rw [dv2]
        refine wp_ret rfl rfl ?_
        exact k0 (by omega) (by omega)
      · skip
        refine wp_go rfl rfl ?_
        refine wp_go rfl rfl ?_
        refine wp_ret rfl rfl ?_
        exact k1 (by omega) (by omega)
    · skip
      refine wp_go rfl rfl ?_
      refine wp_go rfl rfl ?_
      refine wp_ret rfl rfl ?_
      exact kx (by omega)
  · skip
    refine e_istn (L' := [xR 22, xI v, xI t, xI (-2), none]) rfl rfl rfl ?_
    refine wp_go rfl rfl ?_
    refine wp_go rfl rfl ?_
    refine wp_go rfl rfl ?_
    refine wp_ret rfl rfl ?_
    exact kx (by omega)
