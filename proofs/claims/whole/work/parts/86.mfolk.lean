/-! the reference: folk, weather, ruling, marks, things seen, debts -/
def wlS (s : cT) (v : Int) : cT := (s.nf + 1, s.dy, s.rn, s.x, s.wt, s.tc, s.ru, s.sc, hc_u s.mk s.nf 0, hc_u s.sl s.nf v, s.tx, s.fs, s.ct, s.rs)
def weS (s : cT) (r x : Int) : cT := (s.nf, s.dy, r, x, s.wt, s.tc, s.ru, s.sc, s.mk, s.sl, s.tx, s.fs, s.ct, s.rs)
def ruS (s : cT) (t : Int) : cT := (s.nf, s.dy, s.rn, s.x, s.wt, s.tc, t, s.sc, s.mk, s.sl, s.tx, s.fs, s.ct, s.rs)
def scS (s : cT) (c : Int) : cT := (s.nf, s.dy, s.rn, s.x, s.wt, s.tc, s.ru, c, s.mk, s.sl, s.tx, s.fs, s.ct, s.rs)
theorem RA.wl {A : Nat → Int} {s : cT} {e : dX} {v : Int} (H : RA A s e) (hn : s.nf < 8) : RA (hc_u (hc_u (hc_u A (12 + 2 * s.nf) 0) (12 + 2 * s.nf + 1) v) 0 ((s.nf : Int) + 1)) (wlS s v) e := by
  obtain ⟨⟨a0, a1, a2, a3, a4, a5, a6, a7, a8, a9⟩, b, c, g, f⟩ := H
  have n3 : ∀ q, q ≠ 0 → q ≠ 12 + 2 * s.nf → q ≠ 12 + 2 * s.nf + 1 → hc_u (hc_u (hc_u A (12 + 2 * s.nf) 0) (12 + 2 * s.nf + 1) v) 0 ((s.nf : Int) + 1) q = A q := fun q h1 h2 h3 => (hu_n h1).trans ((hu_n h3).trans (hu_n h2))
  refine ⟨⟨hu_s.trans (by show (s.nf : Int) + 1 = ((s.nf + 1 : Nat) : Int); omega), (n3 _ (by omega) (by omega) (by omega)).trans a1, (n3 _ (by omega) (by omega) (by omega)).trans a2, (n3 _ (by omega) (by omega) (by omega)).trans a3, (n3 _ (by omega) (by omega) (by omega)).trans a4, (n3 _ (by omega) (by omega) (by omega)).trans a5, (n3 _ (by omega) (by omega) (by omega)).trans a6, (n3 _ (by omega) (by omega) (by omega)).trans a7, (n3 _ (by omega) (by omega) (by omega)).trans a8, (n3 _ (by omega) (by omega) (by omega)).trans a9⟩, fun p hp => ?_, fun k hk => ?_, fun k hk => ?_, fun i hi => ?_⟩
  · show _ = hc_u s.mk s.nf 0 p ∧ _ = hc_u s.sl s.nf v p
    by_cases c1 : p = s.nf
    · subst c1
      exact ⟨(hu_n (by omega)).trans ((hu_n (by omega)).trans (hu_s.trans hu_s.symm)), (hu_n (by omega)).trans (hu_s.trans hu_s.symm)⟩
    · exact ⟨(n3 _ (by omega) (by omega) (by omega)).trans ((b p hp).1.trans (hu_n c1).symm), (n3 _ (by omega) (by omega) (by omega)).trans ((b p hp).2.trans (hu_n c1).symm)⟩
  · exact ⟨(n3 _ (by omega) (by omega) (by omega)).trans (c k hk).1, (n3 _ (by omega) (by omega) (by omega)).trans (c k hk).2.1, (n3 _ (by omega) (by omega) (by omega)).trans (c k hk).2.2⟩
  · exact (n3 _ (by omega) (by omega) (by omega)).trans (g k hk)
  · exact (f i hi).eq (fun q hq => n3 _ (by omega) (by omega) (by omega)) (fun _ _ => rfl)
theorem RA.se {A : Nat → Int} {s : cT} {e : dX} {c : Nat} {v : Int} (H : RA A s e) (hc : c < 8) : RA (hc_u (hc_u A (88 + c) v) 9 ((c : Int) + 1)) (scS s ((c : Int) + 1)) (e.1, e.2.1, e.2.2.1, e.2.2.2.1, hc_u e.2.2.2.2 c v) := by
  obtain ⟨⟨a0, a1, a2, a3, a4, a5, a6, a7, a8, a9⟩, b, c0, g, f⟩ := H
  have n3 : ∀ q, q ≠ 9 → q ≠ 88 + c → hc_u (hc_u A (88 + c) v) 9 ((c : Int) + 1) q = A q := fun q h1 h2 => (hu_n h1).trans (hu_n h2)
  refine ⟨⟨(n3 _ (by omega) (by omega)).trans a0, (n3 _ (by omega) (by omega)).trans a1, (n3 _ (by omega) (by omega)).trans a2, (n3 _ (by omega) (by omega)).trans a3, (n3 _ (by omega) (by omega)).trans a4, (n3 _ (by omega) (by omega)).trans a5, (n3 _ (by omega) (by omega)).trans a6, (n3 _ (by omega) (by omega)).trans a7, (n3 _ (by omega) (by omega)).trans a8, hu_s⟩, fun p hp => ⟨(n3 _ (by omega) (by omega)).trans (b p hp).1, (n3 _ (by omega) (by omega)).trans (b p hp).2⟩, fun k hk => ⟨(n3 _ (by omega) (by omega)).trans (c0 k hk).1, (n3 _ (by omega) (by omega)).trans (c0 k hk).2.1, (n3 _ (by omega) (by omega)).trans (c0 k hk).2.2⟩, fun k hk => ?_, fun i hi => (f i hi).eq (fun q hq => n3 _ (by omega) (by omega)) (fun _ _ => rfl)⟩
  show _ = hc_u e.2.2.2.2 c v k
  by_cases c1 : k = c
  · subst c1
    exact (hu_n (by omega)).trans (hu_s.trans hu_s.symm)
  · exact (n3 _ (by omega) (by omega)).trans ((g k hk).trans (hu_n c1).symm)
theorem RA.ow {A : Nat → Int} {s : cT} {e : dX} {c : Nat} {u v x : Int} (H : RA A s e) (hc : c < 20) : RA (hc_u (hc_u (hc_u (hc_u A (28 + 3 * c) u) (28 + 3 * c + 1) v) (28 + 3 * c + 2) x) 8 ((c : Int) + 1)) s (c + 1, hc_u e.2.1 c u, hc_u e.2.2.1 c v, hc_u e.2.2.2.1 c x, e.2.2.2.2) := by
  obtain ⟨⟨a0, a1, a2, a3, a4, a5, a6, a7, a8, a9⟩, b, c0, g, f⟩ := H
  have n3 : ∀ q, q ≠ 8 → q ≠ 28 + 3 * c → q ≠ 28 + 3 * c + 1 → q ≠ 28 + 3 * c + 2 → hc_u (hc_u (hc_u (hc_u A (28 + 3 * c) u) (28 + 3 * c + 1) v) (28 + 3 * c + 2) x) 8 ((c : Int) + 1) q = A q := fun q h1 h2 h3 h4 => (hu_n h1).trans ((hu_n h4).trans ((hu_n h3).trans (hu_n h2)))
  have t : ∀ {q : Nat} {w : Int}, q ≠ 8 → (q < 28 ∨ 88 ≤ q) → A q = w → hc_u (hc_u (hc_u (hc_u A (28 + 3 * c) u) (28 + 3 * c + 1) v) (28 + 3 * c + 2) x) 8 ((c : Int) + 1) q = w := fun h1 h2 h3 => (n3 _ h1 (by omega) (by omega) (by omega)).trans h3
  refine ⟨⟨t (by omega) (by omega) a0, t (by omega) (by omega) a1, t (by omega) (by omega) a2, t (by omega) (by omega) a3, t (by omega) (by omega) a4, t (by omega) (by omega) a5, t (by omega) (by omega) a6, t (by omega) (by omega) a7, hu_s.trans (by show (c : Int) + 1 = ((c + 1 : Nat) : Int); omega), t (by omega) (by omega) a9⟩, fun p hp => ⟨t (by omega) (by omega) (b p hp).1, t (by omega) (by omega) (b p hp).2⟩, fun k hk => ?_, fun k hk => t (by omega) (by omega) (g k hk), fun i hi => (f i hi).eq (fun q hq => t (by omega) (by omega) rfl) (fun _ _ => rfl)⟩
  show _ = hc_u e.2.1 c u k ∧ _ = hc_u e.2.2.1 c v k ∧ _ = hc_u e.2.2.2.1 c x k
  by_cases c1 : k = c
  · subst c1
    exact ⟨(hu_n (by omega)).trans ((hu_n (by omega)).trans ((hu_n (by omega)).trans (hu_s.trans hu_s.symm))), (hu_n (by omega)).trans ((hu_n (by omega)).trans (hu_s.trans hu_s.symm)), (hu_n (by omega)).trans (hu_s.trans hu_s.symm)⟩
  · exact ⟨(n3 _ (by omega) (by omega) (by omega) (by omega)).trans ((c0 k hk).1.trans (hu_n c1).symm), (n3 _ (by omega) (by omega) (by omega) (by omega)).trans ((c0 k hk).2.1.trans (hu_n c1).symm), (n3 _ (by omega) (by omega) (by omega) (by omega)).trans ((c0 k hk).2.2.trans (hu_n c1).symm)⟩
set_option maxRecDepth 100000 in
theorem c_mfolk {d : Nat} {h : hc_H} {Q : List hc_V → hc_H → Prop} {v : Int} {s A : Nat → Int} {cs : cT} {e : dX} (hs : cOK cs) (H71 : h.2.2 71 = mo s) (H72 : h.2.2 72 = ar 456 A) (H : RA A cs e) (kf : (v < 0 ∨ 9 < v ∨ cs.nf = 8) → Q [xI (-1)] h) (kt : 0 ≤ v → v ≤ 9 → cs.nf < 8 → ∀ h2 A2, h2.2.2 72 = ar 456 A2 → RA A2 (wlS cs v) e → Fr [72] h h2 → Q [xI (cs.nf : Int)] h2) : hc_wp (d + 1) mX10_folk 0 [xR 71, xI v] [] h Q := by
  have hn8 := hs.1
  refine wp_go rfl rfl ?_
  refine wp_go rfl rfl ?_
  refine wp_go rfl rfl ?_
  refine wp_call rfl rfl rfl rfl ?_
  refine c_isIn  (fun q4 => ?_) (fun q4 => ?_)
  · skip
    refine wp_go rfl rfl ?_
    refine wp_go rfl rfl ?_
    refine e_get rfl H71 rfl rfl ?_
    refine wp_go rfl rfl ?_
    refine e_aldE (p := 0) rfl H72 rfl ⟨by omega, by omega⟩ ?_
    rw [show (A 0) = (cs.nf : Int) from H.1.1]
    refine wp_go rfl rfl ?_
    refine e_cne rfl (fun c18 => ?_) (fun c18 => ?_)
    · skip
      refine wp_go rfl rfl ?_
      refine e_get rfl H71 rfl rfl ?_
      refine wp_go rfl rfl ?_
      refine wp_go rfl rfl ?_
      refine wp_go rfl rfl ?_
      refine e_get rfl H71 rfl rfl ?_
      refine wp_go rfl rfl ?_
      refine e_aldE (p := 0) rfl H72 rfl ⟨by omega, by omega⟩ ?_
      rw [show (A 0) = (cs.nf : Int) from H.1.1]
      refine e_imul rfl (by omega) ?_
      refine e_iadd rfl (by omega) ?_
      refine wp_go rfl rfl ?_
      refine e_iastE (p := 12 + 2 * cs.nf) rfl H72 ⟨by omega, by omega⟩ ?_
      refine wp_go rfl rfl ?_
      refine e_get rfl H71 rfl rfl ?_
      refine wp_go rfl rfl ?_
      refine wp_go rfl rfl ?_
      refine wp_go rfl rfl ?_
      refine e_get rfl H71 rfl rfl ?_
      refine wp_go rfl rfl ?_
      refine e_aldE (p := 0) rfl rfl rfl ⟨by omega, by omega⟩ ?_
      rw [show ((hc_u A (12 + 2 * cs.nf) 0) 0) = (cs.nf : Int) from ((hu_n (by omega)).trans H.1.1)]
      refine e_imul rfl (by omega) ?_
      refine e_iadd rfl (by omega) ?_
      refine wp_go rfl rfl ?_
      refine e_iadd rfl (by omega) ?_
      refine wp_go rfl rfl ?_
      refine e_iastE (p := 12 + 2 * cs.nf + 1) rfl rfl ⟨by omega, by omega⟩ ?_
      refine wp_go rfl rfl ?_
      refine e_get rfl H71 rfl rfl ?_
      refine wp_go rfl rfl ?_
      refine wp_go rfl rfl ?_
      refine e_aldE (p := 0) rfl rfl rfl ⟨by omega, by omega⟩ ?_
      rw [show ((hc_u (hc_u A (12 + 2 * cs.nf) 0) (12 + 2 * cs.nf + 1) v) 0) = (cs.nf : Int) from ((hu_n (by omega)).trans ((hu_n (by omega)).trans H.1.1))]
      refine wp_go rfl rfl ?_
      refine e_iadd rfl (by omega) ?_
      refine e_iastE (p := 0) rfl rfl ⟨by omega, by omega⟩ ?_
      refine wp_go rfl rfl ?_
      refine e_get rfl H71 rfl rfl ?_
      refine wp_go rfl rfl ?_
      refine e_aldE (p := 0) rfl rfl rfl ⟨by omega, by omega⟩ ?_
      rw [show ((hc_u (hc_u (hc_u A (12 + 2 * cs.nf) 0) (12 + 2 * cs.nf + 1) v) 0 ((cs.nf : Int) + 1)) 0) = ((cs.nf : Int) + 1) from hu_s]
      refine wp_go rfl rfl ?_
      refine e_isub rfl (by omega) ?_
      rw [show (cs.nf : Int) + 1 - 1 = (cs.nf : Int) by omega]
      refine wp_ret rfl rfl ?_
      exact kt (by omega) (by omega) (by omega) _ _ rfl (H.wl (by omega)) (((Fr.rf.wr rfl).wr rfl).wr rfl)
    · skip
      refine wp_go rfl rfl ?_
      refine wp_ret rfl rfl ?_
      exact kf (by omega)
  · skip
    refine wp_go rfl rfl ?_
    refine wp_go rfl rfl ?_
    refine wp_ret rfl rfl ?_
    exact kf (by omega)
set_option maxRecDepth 100000 in
theorem c_mweather {d : Nat} {h : hc_H} {Q : List hc_V → hc_H → Prop} {r v : Int} {s A : Nat → Int} {cs : cT} {e : dX} (hs : cOK cs) (H71 : h.2.2 71 = mo s) (H72 : h.2.2 72 = ar 456 A) (H : RA A cs e) (kf : (r < 0 ∨ 10 < r ∨ v < 0 ∨ 9999 < v) → Q [xI 0] h) (kt : 0 ≤ r ∧ r ≤ 10 → 0 ≤ v ∧ v ≤ 9999 → ∀ h2 A2, h2.2.2 72 = ar 456 A2 → RA A2 (weS cs r (v * 9 + 23)) e → Fr [72] h h2 → Q [xI 1] h2) : hc_wp (d + 1) mX10_weather 0 [xR 71, xI r, xI v] [] h Q := by
  refine wp_go rfl rfl ?_
  refine wp_go rfl rfl ?_
  refine wp_go rfl rfl ?_
  refine wp_call rfl rfl rfl rfl ?_
  refine c_isIn  (fun q4 => ?_) (fun q4 => ?_)
  · skip
    refine wp_go rfl rfl ?_
    refine wp_go rfl rfl ?_
    refine wp_go rfl rfl ?_
    refine wp_go rfl rfl ?_
    refine wp_call rfl rfl rfl rfl ?_
    refine c_isIn  (fun q15 => ?_) (fun q15 => ?_)
    · skip
      refine wp_go rfl rfl ?_
      refine wp_go rfl rfl ?_
      refine e_get rfl H71 rfl rfl ?_
      refine wp_go rfl rfl ?_
      refine wp_go rfl rfl ?_
      refine e_iastE (p := 2) rfl H72 ⟨by omega, by omega⟩ ?_
      refine wp_go rfl rfl ?_
      refine e_get rfl H71 rfl rfl ?_
      refine wp_go rfl rfl ?_
      refine wp_go rfl rfl ?_
      refine wp_go rfl rfl ?_
      refine e_imul rfl (by omega) ?_
      refine wp_go rfl rfl ?_
      refine e_iadd rfl (by omega) ?_
      refine e_iastE (p := 3) rfl rfl ⟨by omega, by omega⟩ ?_
      refine wp_go rfl rfl ?_
      refine wp_ret rfl rfl ?_
      exact kt (by omega) (by omega) _ _ rfl ⟨⟨((hu_n (by omega)).trans ((hu_n (by omega)).trans H.1.1)), ((hu_n (by omega)).trans ((hu_n (by omega)).trans H.1.2.1)), ((hu_n (by omega)).trans (hu_s.trans rfl)), (hu_s.trans rfl), ((hu_n (by omega)).trans ((hu_n (by omega)).trans H.1.2.2.2.2.1)), ((hu_n (by omega)).trans ((hu_n (by omega)).trans H.1.2.2.2.2.2.1)), ((hu_n (by omega)).trans ((hu_n (by omega)).trans H.1.2.2.2.2.2.2.1)), ((hu_n (by omega)).trans ((hu_n (by omega)).trans H.1.2.2.2.2.2.2.2.1)), ((hu_n (by omega)).trans ((hu_n (by omega)).trans H.1.2.2.2.2.2.2.2.2.1)), ((hu_n (by omega)).trans ((hu_n (by omega)).trans H.1.2.2.2.2.2.2.2.2.2))⟩, fun p hp => ⟨((hu_n (by omega)).trans ((hu_n (by omega)).trans (H.2.1 p hp).1)), ((hu_n (by omega)).trans ((hu_n (by omega)).trans (H.2.1 p hp).2))⟩, fun k hk => ⟨((hu_n (by omega)).trans ((hu_n (by omega)).trans (H.2.2.1 k hk).1)), ((hu_n (by omega)).trans ((hu_n (by omega)).trans (H.2.2.1 k hk).2.1)), ((hu_n (by omega)).trans ((hu_n (by omega)).trans (H.2.2.1 k hk).2.2))⟩, fun k hk => ((hu_n (by omega)).trans ((hu_n (by omega)).trans (H.2.2.2.1 k hk))), fun i hi => SGR.eq (H.2.2.2.2 i hi) (fun q hq => ((hu_n (by omega)).trans ((hu_n (by omega)).trans rfl))) (fun _ _ => rfl)⟩ ((Fr.rf.wr rfl).wr rfl)
    · skip
      refine wp_go rfl rfl ?_
      refine wp_go rfl rfl ?_
      refine wp_ret rfl rfl ?_
      exact kf (by omega)
  · skip
    refine wp_go rfl rfl ?_
    refine wp_go rfl rfl ?_
    refine wp_ret rfl rfl ?_
    exact kf (by omega)
set_option maxRecDepth 100000 in
theorem c_mby {d : Nat} {h : hc_H} {Q : List hc_V → hc_H → Prop} {v : Int} {s A : Nat → Int} {cs : cT} {e : dX} (hs : cOK cs) (H71 : h.2.2 71 = mo s) (H72 : h.2.2 72 = ar 456 A) (H : RA A cs e) (htc : 0 ≤ cs.tc ∧ cs.tc ≤ 4) (kf : (v < -1 ∨ cs.tc ≤ v) → Q [xI 0] h) (kt : -1 ≤ v ∧ v < cs.tc → ∀ h2 A2, h2.2.2 72 = ar 456 A2 → RA A2 (ruS cs v) e → Fr [72] h h2 → Q [xI 1] h2) : hc_wp (d + 1) mX10_by 0 [xR 71, xI v] [] h Q := by
  refine wp_go rfl rfl ?_
  refine wp_go rfl rfl ?_
  refine wp_go rfl rfl ?_
  refine e_get rfl H71 rfl rfl ?_
  refine wp_go rfl rfl ?_
  refine e_aldE (p := 5) rfl H72 rfl ⟨by omega, by omega⟩ ?_
  rw [show (A 5) = cs.tc from H.1.2.2.2.2.2.1]
  refine wp_go rfl rfl ?_
  refine e_isub rfl (by omega) ?_
  refine wp_call rfl rfl rfl rfl ?_
  refine c_isIn  (fun q10 => ?_) (fun q10 => ?_)
  · skip
    refine wp_go rfl rfl ?_
    refine wp_go rfl rfl ?_
    refine e_get rfl H71 rfl rfl ?_
    refine wp_go rfl rfl ?_
    refine wp_go rfl rfl ?_
    refine e_iastE (p := 6) rfl H72 ⟨by omega, by omega⟩ ?_
    refine wp_go rfl rfl ?_
    refine wp_ret rfl rfl ?_
    exact kt (by omega) _ _ rfl ⟨⟨((hu_n (by omega)).trans H.1.1), ((hu_n (by omega)).trans H.1.2.1), ((hu_n (by omega)).trans H.1.2.2.1), ((hu_n (by omega)).trans H.1.2.2.2.1), ((hu_n (by omega)).trans H.1.2.2.2.2.1), ((hu_n (by omega)).trans H.1.2.2.2.2.2.1), (hu_s.trans rfl), ((hu_n (by omega)).trans H.1.2.2.2.2.2.2.2.1), ((hu_n (by omega)).trans H.1.2.2.2.2.2.2.2.2.1), ((hu_n (by omega)).trans H.1.2.2.2.2.2.2.2.2.2)⟩, fun p hp => ⟨((hu_n (by omega)).trans (H.2.1 p hp).1), ((hu_n (by omega)).trans (H.2.1 p hp).2)⟩, fun k hk => ⟨((hu_n (by omega)).trans (H.2.2.1 k hk).1), ((hu_n (by omega)).trans (H.2.2.1 k hk).2.1), ((hu_n (by omega)).trans (H.2.2.1 k hk).2.2)⟩, fun k hk => ((hu_n (by omega)).trans (H.2.2.2.1 k hk)), fun i hi => SGR.eq (H.2.2.2.2 i hi) (fun q hq => ((hu_n (by omega)).trans rfl)) (fun _ _ => rfl)⟩ (Fr.rf.wr rfl)
  · skip
    refine wp_go rfl rfl ?_
    refine wp_go rfl rfl ?_
    refine wp_ret rfl rfl ?_
    exact kf (by omega)
set_option maxRecDepth 100000 in
theorem c_mfault {d : Nat} {h : hc_H} {Q : List hc_V → hc_H → Prop} {v : Int} {s : Nat → Int} (H71 : h.2.2 71 = mo s) (k0 : v = 0 → Q [xI (s 5)] h) (k1 : v = 1 → Q [xI (s 6)] h) (kx : v ≠ 0 → v ≠ 1 → Q [xI (-1)] h) : hc_wp d mX10_fault 0 [xR 71, xI v] [] h Q := by
  refine wp_go rfl rfl ?_
  refine e_ifne rfl (fun c1 => ?_) (fun c1 => ?_)
  · skip
    refine wp_go rfl rfl ?_
    refine wp_go rfl rfl ?_
    refine e_cne rfl (fun c13 => ?_) (fun c13 => ?_)
    · skip
      refine wp_go rfl rfl ?_
      refine wp_ret rfl rfl ?_
      exact kx (by omega) (by omega)
    · skip
      refine wp_go rfl rfl ?_
      refine e_get rfl H71 rfl rfl ?_
      refine wp_go rfl rfl ?_
      refine wp_ret rfl rfl ?_
      exact k1 (by omega)
  · skip
    refine wp_go rfl rfl ?_
    refine e_get rfl H71 rfl rfl ?_
    refine wp_go rfl rfl ?_
    refine wp_ret rfl rfl ?_
    exact k0 (by omega)
set_option maxRecDepth 100000 in
theorem c_mmarks {d : Nat} {h : hc_H} {Q : List hc_V → hc_H → Prop} {v : Int} {s A : Nat → Int} {cs : cT} {e : dX} (hs : cOK cs) (H71 : h.2.2 71 = mo s) (H72 : h.2.2 72 = ar 456 A) (H : RA A cs e) (kb : v = -1 → Q [xI (720720 - smk cs.mk cs.nf)] h) (kp : ∀ p : Nat, v = (p : Int) → p < cs.nf → Q [xI (cs.mk p)] h) (kx : v ≠ -1 → ¬ (0 ≤ v ∧ v < (cs.nf : Int)) → Q [xI (-2)] h) : hc_wp (d + 2) mX10_marks 0 [xR 71, xI v] [] h Q := by
  have hn8 := hs.1
  refine wp_go rfl rfl ?_
  refine wp_go rfl rfl ?_
  refine e_cne rfl (fun c2 => ?_) (fun c2 => ?_)
  · skip
    refine wp_go rfl rfl ?_
    refine wp_go rfl rfl ?_
    refine wp_cv rfl rfl rfl H71 rfl rfl rfl ?_
    refine c_misF H71 H72 H.1.1 hs.1  (fun q14 => ?_) (fun q14 => ?_)
    · skip
      refine wp_go rfl rfl ?_
      refine wp_go rfl rfl ?_
      refine wp_go rfl rfl ?_
      refine wp_cv rfl rfl rfl H71 rfl rfl rfl ?_
      obtain ⟨p, hp⟩ : ∃ p : Nat, v = (p : Int) := ⟨Int.toNat v, by omega⟩
      subst hp
      refine c_marksOf (p := p) H71 H72 (by omega) ?_
      rw [(H.2.1 p (by omega)).1]
      refine wp_go rfl rfl ?_
      refine wp_ret rfl rfl ?_
      exact kp p rfl (by omega)
    · skip
      refine wp_go rfl rfl ?_
      refine wp_go rfl rfl ?_
      refine wp_ret rfl rfl ?_
      exact kx (by omega) (by omega)
  · skip
    refine wp_go rfl rfl ?_
    refine wp_cv rfl rfl rfl H71 rfl rfl rfl ?_
    refine c_boxed H71 H72 H.1.1 hs.1 (fun p hp => (H.2.1 p hp).1) (fun j hj => hs.2.1.1 j hj) ?_
    refine wp_go rfl rfl ?_
    refine wp_ret rfl rfl ?_
    exact kb (by omega)
