/-! the class: what it answers, third part -/
set_option maxRecDepth 100000 in
theorem p_end {d : Nat} {h : hc_H} {Q : List hc_V → hc_H → Prop} {n : Nat} {v : Int} (H22 : h.2.2 22 = cco (n : Int)) (kf : (v < 0 ∨ (n : Int) < v) → Q [xI (-1)] h) (kt : 0 ≤ v ∧ v ≤ (n : Int) → ∀ h2, h2.2.2 22 = cco v → Fr [22] h h2 → Q [xI v] h2) : hc_wp (d + 1) mX9_end 0 [xR 22, xI v] [] h Q := by
  refine wp_go rfl rfl ?_
  refine wp_go rfl rfl ?_
  refine wp_go rfl rfl ?_
  refine e_get rfl H22 rfl rfl ?_
  refine wp_call rfl rfl rfl rfl ?_
  refine c_isWithin  (fun q6 => ?_) (fun q6 => ?_)
  · skip
    refine wp_go rfl rfl ?_
    refine wp_go rfl rfl ?_
    refine wp_go rfl rfl ?_
    refine e_put (fs' := [xR 23, xR 37, xR 51, xR 55, xR 58, xR 65, xR 70, xI v]) rfl H22 rfl rfl ?_
    refine wp_go rfl rfl ?_
    refine wp_ret rfl rfl ?_
    exact kt (by omega) _ rfl (Fr.rf.wr rfl)
  · skip
    refine wp_go rfl rfl ?_
    refine wp_go rfl rfl ?_
    refine wp_ret rfl rfl ?_
    exact kf (by omega)
set_option maxRecDepth 100000 in
theorem p_fault {d : Nat} {h : hc_H} {Q : List hc_V → hc_H → Prop} {n : Nat} {v hr fo pl : Int} (H22 : h.2.2 22 = cco (n : Int)) (HR : RDC h hr fo pl) (k9 : hr = 0 → Q [xI (-1)] h) (k0 : hr ≠ 0 → v = 0 → Q [xI fo] h) (k1 : hr ≠ 0 → v = 1 → Q [xI pl] h) (kx : v ≠ 0 → v ≠ 1 → Q [xI (-1)] h) : hc_wp d mX9_fault 0 [xR 22, xI v] [] h Q := by
  obtain ⟨wc, co, cl, lw, a, kd, tl, rb, tk, wd, rw_, H55, H56, H57⟩ := HR
  refine wp_go rfl rfl ?_
  refine e_get rfl H22 rfl rfl ?_
  refine e_get rfl H55 rfl rfl ?_
  refine e_ifne rfl (fun c7 => ?_) (fun c7 => ?_)
  · skip
    refine wp_go rfl rfl ?_
    by_cases z13_0 : v = 0
    · subst z13_0
      refine wp_go rfl rfl ?_
      refine wp_go rfl rfl ?_
      refine e_get rfl H22 rfl rfl ?_
      refine e_get rfl H55 rfl rfl ?_
      refine wp_ret rfl rfl ?_
      exact k0 (by omega) rfl
    by_cases z13_1 : v = 1
    · subst z13_1
      refine wp_go rfl rfl ?_
      refine wp_go rfl rfl ?_
      refine e_get rfl H22 rfl rfl ?_
      refine e_get rfl H55 rfl rfl ?_
      refine wp_ret rfl rfl ?_
      exact k1 (by omega) rfl
    refine e_lswd rfl ?_ (by decide) rfl ?_
    · show Op.lookupswitch.offset [(0, 27), (1, 35)] _ _ = _
      simp only [Op.lookupswitch.offset_cons, Op.lookupswitch.offset_nil]
      rw [if_neg (Ne.symm z13_0), if_neg (Ne.symm z13_1)]
    refine wp_go rfl rfl ?_
    refine wp_ret rfl rfl ?_
    exact kx z13_0 z13_1
  · skip
    refine wp_go rfl rfl ?_
    refine wp_ret rfl rfl ?_
    exact k9 (by omega)
set_option maxRecDepth 100000 in
theorem p_putBytes {d : Nat} {h : hc_H} {Q : List hc_V → hc_H → Prop} {n : Nat} {v : Int} {B : Nat → Int} (hv32 : -2147483648 ≤ v ∧ v ≤ 2147483647) (H22 : h.2.2 22 = cco (n : Int)) (H70 : h.2.2 70 = ar 300 B) (hb : n + 4 ≤ 300) (k : ∀ h2, h2.2.2 22 = cco ((n + 4 : Nat) : Int) → h2.2.2 70 = ar 300 (by4 B n v) → Fr [22, 70] h h2 → Q [] h2) : hc_wp d mX9_putBytes 0 [xR 22, xI v, none] [] h Q := by
  refine wp_go rfl rfl ?_
  refine e_istn (L' := [xR 22, xI v, xI 24]) rfl rfl rfl ?_
  refine wp_go rfl rfl ?_
  refine wp_go rfl rfl ?_
  refine wp_go rfl rfl ?_
  refine e_get rfl H22 rfl rfl ?_
  refine e_iflt rfl (fun c11 => absurd c11 (by omega)) (fun c11 => ?_)
  refine wp_go rfl rfl ?_
  refine e_get rfl H22 rfl rfl ?_
  refine wp_go rfl rfl ?_
  refine e_get rfl H22 rfl rfl ?_
  refine e_alen rfl H70 rfl (by decide) ?_
  refine e_cge rfl (fun c23 => absurd c23 (by omega)) (fun c23 => ?_)
  refine wp_go rfl rfl ?_
  refine e_get rfl H22 rfl rfl ?_
  refine wp_go rfl rfl ?_
  refine e_get rfl H22 rfl rfl ?_
  refine wp_go rfl rfl ?_
  refine wp_go rfl rfl ?_
  refine wp_go rfl rfl ?_
  refine wp_go rfl rfl ?_
  refine wp_go rfl rfl ?_
  rw [byq_24]
  refine e_iastE (p := n) rfl H70 ⟨by omega, by omega⟩ ?_
  refine wp_go rfl rfl ?_
  refine wp_go rfl rfl ?_
  refine e_get rfl H22 rfl rfl ?_
  refine wp_go rfl rfl ?_
  refine e_iadd rfl (by omega) ?_
  rw [show (n : Int) + 1 = ((n + 1 : Nat) : Int) by omega]
  refine e_put (fs' := [xR 23, xR 37, xR 51, xR 55, xR 58, xR 65, xR 70, xI ((n + 1 : Nat) : Int)]) rfl H22 rfl rfl ?_
  refine e_inc (L' := [xR 22, xI v, xI (24 + (-8))]) rfl rfl (by omega) rfl ?_
  rw [show (24 : Int) + (-8) = 16 from rfl]
  refine wp_go rfl rfl ?_
  refine wp_go rfl rfl ?_
  refine wp_go rfl rfl ?_
  refine wp_go rfl rfl ?_
  refine e_get rfl rfl rfl rfl ?_
  refine e_iflt rfl (fun c11 => absurd c11 (by omega)) (fun c11 => ?_)
  refine wp_go rfl rfl ?_
  refine e_get rfl rfl rfl rfl ?_
  refine wp_go rfl rfl ?_
  refine e_get rfl rfl rfl rfl ?_
  refine e_alen rfl rfl rfl (by decide) ?_
  refine e_cge rfl (fun c23 => absurd c23 (by omega)) (fun c23 => ?_)
  refine wp_go rfl rfl ?_
  refine e_get rfl rfl rfl rfl ?_
  refine wp_go rfl rfl ?_
  refine e_get rfl rfl rfl rfl ?_
  refine wp_go rfl rfl ?_
  refine wp_go rfl rfl ?_
  refine wp_go rfl rfl ?_
  refine wp_go rfl rfl ?_
  refine wp_go rfl rfl ?_
  rw [byq_16]
  refine e_iastE (p := n + 1) rfl rfl ⟨by omega, by omega⟩ ?_
  refine wp_go rfl rfl ?_
  refine wp_go rfl rfl ?_
  refine e_get rfl rfl rfl rfl ?_
  refine wp_go rfl rfl ?_
  refine e_iadd rfl (by omega) ?_
  rw [show ((n + 1 : Nat) : Int) + 1 = ((n + 2 : Nat) : Int) by omega]
  refine e_put (fs' := [xR 23, xR 37, xR 51, xR 55, xR 58, xR 65, xR 70, xI ((n + 2 : Nat) : Int)]) rfl rfl rfl rfl ?_
  refine e_inc (L' := [xR 22, xI v, xI (16 + (-8))]) rfl rfl (by omega) rfl ?_
  rw [show (16 : Int) + (-8) = 8 from rfl]
  refine wp_go rfl rfl ?_
  refine wp_go rfl rfl ?_
  refine wp_go rfl rfl ?_
  refine wp_go rfl rfl ?_
  refine e_get rfl rfl rfl rfl ?_
  refine e_iflt rfl (fun c11 => absurd c11 (by omega)) (fun c11 => ?_)
  refine wp_go rfl rfl ?_
  refine e_get rfl rfl rfl rfl ?_
  refine wp_go rfl rfl ?_
  refine e_get rfl rfl rfl rfl ?_
  refine e_alen rfl rfl rfl (by decide) ?_
  refine e_cge rfl (fun c23 => absurd c23 (by omega)) (fun c23 => ?_)
  refine wp_go rfl rfl ?_
  refine e_get rfl rfl rfl rfl ?_
  refine wp_go rfl rfl ?_
  refine e_get rfl rfl rfl rfl ?_
  refine wp_go rfl rfl ?_
  refine wp_go rfl rfl ?_
  refine wp_go rfl rfl ?_
  refine wp_go rfl rfl ?_
  refine wp_go rfl rfl ?_
  rw [byq_8]
  refine e_iastE (p := n + 2) rfl rfl ⟨by omega, by omega⟩ ?_
  refine wp_go rfl rfl ?_
  refine wp_go rfl rfl ?_
  refine e_get rfl rfl rfl rfl ?_
  refine wp_go rfl rfl ?_
  refine e_iadd rfl (by omega) ?_
  rw [show ((n + 2 : Nat) : Int) + 1 = ((n + 3 : Nat) : Int) by omega]
  refine e_put (fs' := [xR 23, xR 37, xR 51, xR 55, xR 58, xR 65, xR 70, xI ((n + 3 : Nat) : Int)]) rfl rfl rfl rfl ?_
  refine e_inc (L' := [xR 22, xI v, xI (8 + (-8))]) rfl rfl (by omega) rfl ?_
  rw [show (8 : Int) + (-8) = 0 from rfl]
  refine wp_go rfl rfl ?_
  refine wp_go rfl rfl ?_
  refine wp_go rfl rfl ?_
  refine wp_go rfl rfl ?_
  refine e_get rfl rfl rfl rfl ?_
  refine e_iflt rfl (fun c11 => absurd c11 (by omega)) (fun c11 => ?_)
  refine wp_go rfl rfl ?_
  refine e_get rfl rfl rfl rfl ?_
  refine wp_go rfl rfl ?_
  refine e_get rfl rfl rfl rfl ?_
  refine e_alen rfl rfl rfl (by decide) ?_
  refine e_cge rfl (fun c23 => absurd c23 (by omega)) (fun c23 => ?_)
  refine wp_go rfl rfl ?_
  refine e_get rfl rfl rfl rfl ?_
  refine wp_go rfl rfl ?_
  refine e_get rfl rfl rfl rfl ?_
  refine wp_go rfl rfl ?_
  refine wp_go rfl rfl ?_
  refine wp_go rfl rfl ?_
  refine wp_go rfl rfl ?_
  refine wp_go rfl rfl ?_
  rw [byq_0]
  refine e_iastE (p := n + 3) rfl rfl ⟨by omega, by omega⟩ ?_
  refine wp_go rfl rfl ?_
  refine wp_go rfl rfl ?_
  refine e_get rfl rfl rfl rfl ?_
  refine wp_go rfl rfl ?_
  refine e_iadd rfl (by omega) ?_
  rw [show ((n + 3 : Nat) : Int) + 1 = ((n + 4 : Nat) : Int) by omega]
  refine e_put (fs' := [xR 23, xR 37, xR 51, xR 55, xR 58, xR 65, xR 70, xI ((n + 4 : Nat) : Int)]) rfl rfl rfl rfl ?_
  refine e_inc (L' := [xR 22, xI v, xI (0 + (-8))]) rfl rfl (by omega) rfl ?_
  rw [show (0 : Int) + (-8) = (-8) from rfl]
  refine wp_go rfl rfl ?_
  refine wp_go rfl rfl ?_
  refine wp_go rfl rfl ?_
  refine wp_ret rfl rfl ?_
  exact k _ rfl rfl ((((((((Fr.rf.wr rfl).wr rfl).wr rfl).wr rfl).wr rfl).wr rfl).wr rfl).wr rfl)
set_option maxRecDepth 100000 in
theorem p_feed {d : Nat} {h : hc_H} {Q : List hc_V → hc_H → Prop} {n : Nat} {v1 v2 v3 v4 v5 : Int} {B : Nat → Int} (hw1 : -2147483648 ≤ v1 ∧ v1 ≤ 2147483647) (hw2 : -2147483648 ≤ v2 ∧ v2 ≤ 2147483647) (hw3 : -2147483648 ≤ v3 ∧ v3 ≤ 2147483647) (hw4 : -2147483648 ≤ v4 ∧ v4 ≤ 2147483647) (hw5 : -2147483648 ≤ v5 ∧ v5 ≤ 2147483647) (hn3 : n ≤ 300) (H22 : h.2.2 22 = cco (n : Int)) (H70 : h.2.2 70 = ar 300 B) (kf : 280 < n → Q [xI (-1)] h) (kt : n ≤ 280 → ∀ h2, h2.2.2 22 = cco ((n + 20 : Nat) : Int) → h2.2.2 70 = ar 300 (by20 B n v1 v2 v3 v4 v5) → Fr [22, 70] h h2 → Q [xI ((n + 20 : Nat) : Int)] h2) : hc_wp (d + 1) mX9_feed 0 [xR 22, xI v1, xI v2, xI v3, xI v4, xI v5] [] h Q := by
  refine wp_go rfl rfl ?_
  refine e_get rfl H22 rfl rfl ?_
  refine wp_go rfl rfl ?_
  refine e_iadd rfl (by omega) ?_
  refine wp_go rfl rfl ?_
  refine e_cle rfl (fun c10 => ?_) (fun c10 => ?_)
  · skip
    refine wp_go rfl rfl ?_
    refine wp_go rfl rfl ?_
    refine wp_cv rfl rfl rfl H22 rfl rfl rfl ?_
    refine p_putBytes (d := d) (n := n) hw1 H22 H70 (by omega) (fun g0 A0 B0 F0 => ?_)
    refine wp_go rfl rfl ?_
    refine wp_go rfl rfl ?_
    refine wp_cv rfl rfl rfl A0 rfl rfl rfl ?_
    refine p_putBytes (d := d) (n := n + 4) hw2 A0 B0 (by omega) (fun g1 A1 B1 F1 => ?_)
    refine wp_go rfl rfl ?_
    refine wp_go rfl rfl ?_
    refine wp_cv rfl rfl rfl A1 rfl rfl rfl ?_
    refine p_putBytes (d := d) (n := n + 8) hw3 A1 B1 (by omega) (fun g2 A2 B2 F2 => ?_)
    refine wp_go rfl rfl ?_
    refine wp_go rfl rfl ?_
    refine wp_cv rfl rfl rfl A2 rfl rfl rfl ?_
    refine p_putBytes (d := d) (n := n + 12) hw4 A2 B2 (by omega) (fun g3 A3 B3 F3 => ?_)
    refine wp_go rfl rfl ?_
    refine wp_go rfl rfl ?_
    refine wp_cv rfl rfl rfl A3 rfl rfl rfl ?_
    refine p_putBytes (d := d) (n := n + 16) hw5 A3 B3 (by omega) (fun g4 A4 B4 F4 => ?_)
    refine wp_go rfl rfl ?_
    refine e_get rfl A4 rfl rfl ?_
    refine wp_ret rfl rfl ?_
    exact kt (by omega) g4 A4 B4 (((F0.tr F1 (fun _ z => z)).tr F2 (fun _ z => z)).tr F3 (fun _ z => z) |>.tr F4 (fun _ z => z))
  · skip
    refine wp_go rfl rfl ?_
    refine wp_ret rfl rfl ?_
    exact kf (by omega)
def G3 (h : hc_H) (s : cT) (e : dX) : Prop := TH h s ∧ h.2.2 32 = dbt (e.1 : Int) ∧ h.2.2 33 = ar 20 e.2.1 ∧ h.2.2 34 = ar 20 e.2.2.1 ∧ h.2.2 35 = ar 20 e.2.2.2.1 ∧ h.2.2 36 = ar 8 e.2.2.2.2
def G4 (h : hc_H) (s : cT) (e : dX) : Prop := h.2.2 37 = tw2 (s.nf : Int) s.dy s.rn s.x s.wt s.tc s.ru s.sc ∧ h.2.2 41 = ar 8 s.mk ∧ h.2.2 42 = ar 8 s.sl ∧ h.2.2 43 = .inl (3, 4, .inr s.tx) ∧ h.2.2 44 = stp2 s.fs s.ct ∧ h.2.2 45 = ar 330 s.rs ∧ h.2.2 46 = dbt2 (e.1 : Int) ∧ h.2.2 47 = ar 20 e.2.1 ∧ h.2.2 48 = ar 20 e.2.2.1 ∧ h.2.2 49 = ar 20 e.2.2.2.1 ∧ h.2.2 50 = ar 8 e.2.2.2.2
def lkS (s t : cT) : cT := (s.nf, s.dy, s.rn, s.x, s.wt, s.tc, s.ru, s.sc, cc 8 s.mk t.mk, cc 8 s.sl t.sl, cc 4 s.tx t.tx, s.fs, s.ct, cc 330 s.rs t.rs)
def lkE (e f : dX) : dX := (e.1, cc 20 e.2.1 f.2.1, cc 20 e.2.2.1 f.2.2.1, cc 20 e.2.2.2.1 f.2.2.2.1, cc 8 e.2.2.2.2 f.2.2.2.2)
set_option maxRecDepth 100000 in
theorem p_image {d : Nat} {h : hc_H} {Q : List hc_V → hc_H → Prop} {tp : Int} {cs ks : cT} {e ke : dX} (H22 : h.2.2 22 = cco tp) (H : G3 h cs e) (K : G4 h ks ke) (HT : ∀ p, p < 4 → TT h (cs.tx p)) (k : ∀ h2, G4 h2 (lkS cs ks) (lkE e ke) → Fr [37, 41, 42, 43, 44, 45, 46, 47, 48, 49, 50] h h2 → Q [xI cs.dy] h2) : hc_wp (d + 3) mX9_image 0 [xR 22] [] h Q := by
  refine wp_go rfl rfl ?_
  refine e_get rfl H22 rfl rfl ?_
  refine wp_go rfl rfl ?_
  refine e_get rfl H22 rfl rfl ?_
  refine wp_cv rfl rfl rfl K.1 rfl rfl rfl ?_
  refine c_like_k (d := d) K.1 H.1.1 K.2.2.2.1 H.1.2.2.2.1 HT K.2.2.2.2.1 H.1.2.2.2.2.1 K.2.2.2.2.2.2.1 H.2.1 K.2.1 H.1.2.1 K.2.2.1 H.1.2.2.1 K.2.2.2.2.2.2.2.2.2.2 H.2.2.2.2.2 K.2.2.2.2.2.1 H.1.2.2.2.2.2.1 K.2.2.2.2.2.2.2.1 H.2.2.1 K.2.2.2.2.2.2.2.2.1 H.2.2.2.1 K.2.2.2.2.2.2.2.2.2.1 H.2.2.2.2.1 (fun h2 y1 y2 y3 y4 y5 y6 y7 y8 y9 y10 y11 F2 => ?_)
  refine wp_go rfl rfl ?_
  refine e_get rfl ((F2.2.2 22 rfl).trans H22) rfl rfl ?_
  refine e_get rfl ((F2.2.2 23 rfl).trans H.1.1) rfl rfl ?_
  refine wp_ret rfl rfl ?_
  exact k h2 ⟨y1, y5, y6, y2, y3, y8, y4, y9, y10, y11, y7⟩ F2
set_option maxRecDepth 100000 in
theorem p_back {d : Nat} {h : hc_H} {Q : List hc_V → hc_H → Prop} {tp : Int} {cs ks : cT} {e ke : dX} (H22 : h.2.2 22 = cco tp) (H : G3 h cs e) (K : G4 h ks ke) (HT : ∀ p, p < 4 → TT h (ks.tx p)) (k : ∀ h2, G3 h2 (lkS ks cs) (lkE ke e) → Fr [23, 27, 28, 29, 30, 31, 32, 33, 34, 35, 36] h h2 → Q [xI ks.dy] h2) : hc_wp (d + 3) mX9_back 0 [xR 22] [] h Q := by
  refine wp_go rfl rfl ?_
  refine e_get rfl H22 rfl rfl ?_
  refine wp_go rfl rfl ?_
  refine e_get rfl H22 rfl rfl ?_
  refine wp_cv rfl rfl rfl H.1.1 rfl rfl rfl ?_
  refine c_like_b (d := d) H.1.1 K.1 H.1.2.2.2.1 K.2.2.2.1 HT H.1.2.2.2.2.1 K.2.2.2.2.1 H.2.1 K.2.2.2.2.2.2.1 H.1.2.1 K.2.1 H.1.2.2.1 K.2.2.1 H.2.2.2.2.2 K.2.2.2.2.2.2.2.2.2.2 H.1.2.2.2.2.2.1 K.2.2.2.2.2.1 H.2.2.1 K.2.2.2.2.2.2.2.1 H.2.2.2.1 K.2.2.2.2.2.2.2.2.1 H.2.2.2.2.1 K.2.2.2.2.2.2.2.2.2.1 (fun h2 y1 y2 y3 y4 y5 y6 y7 y8 y9 y10 y11 F2 => ?_)
  refine wp_go rfl rfl ?_
  refine e_get rfl ((F2.2.2 22 rfl).trans H22) rfl rfl ?_
  refine e_get rfl y1 rfl rfl ?_
  refine wp_ret rfl rfl ?_
  obtain ⟨⟨ht, w1⟩, ⟨nm, w2, w3⟩, vs, w4⟩ := H.1.2.2.2.2.2.2
  exact k h2 ⟨⟨y1, y5, y6, y2, y3, y8, ⟨ht, (F2.2.2 24 rfl).trans w1⟩, ⟨nm, w2, (F2.2.2 25 rfl).trans w3⟩, vs, (F2.2.2 26 rfl).trans w4⟩, y4, y9, y10, y11, y7⟩ F2
