/-! the reference: a text laid -/
def tcS (s : cT) (c : Int) : cT := (s.nf, s.dy, s.rn, s.x, s.wt, c, s.ru, s.sc, s.mk, s.sl, s.tx, s.fs, s.ct, s.rs)
set_option maxRecDepth 100000 in
theorem c_mtext {d : Nat} {h : hc_H} {Q : List hc_V → hc_H → Prop} {B : Nat → Int} {n tc : Nat} {v : ef} {r : (Int × Nat) ⊕ (Nat × Option ef × Option ef × (Nat → Nat))} {s T f A : Nat → Int} {cs : cT} {e : dX} (hB : BY B) (hn : n ≤ 300) (hr : sTx (tK B n) (tN B n) v 25 0 0 none none (fun _ => 0) = r) (H71 : h.2.2 71 = mo s) (H72 : h.2.2 72 = ar 456 A) (H74 : h.2.2 74 = ar 2720 T) (H75 : h.2.2 75 = ar 300 B) (H76 : h.2.2 76 = ar 160 f) (e4 : s 4 = (n : Int)) (H : RA A cs e) (htc : cs.tc = (tc : Int)) (htc4 : tc ≤ 4) (k4 : tc = 4 → Q [xI (-1)] h) (kok : tc < 4 → ∀ (nc : Nat) (ft fr : Option ef) (st : Nat → Nat), r = .inr (nc, ft, fr, st) → ∀ (h2 : hc_H) (s2 T2 f2 : Nat → Int) (w : Nat) (A2 : Nat → Int), h2.2.2 71 = mo s2 → h2.2.2 72 = ar 456 A2 → h2.2.2 74 = ar 2720 T2 → h2.2.2 76 = ar 160 f2 → RA A2 (tcS cs ((tc : Int) + 1)) e → T2 (680 * tc) = (nc : Int) → nc ≤ 24 → w ≤ 300 → TXM (tK B n) (tN B n) T2 (680 * tc) nc w ft fr st → TXF (tK B n) nc ft fr st → (∀ a, a < (680 * tc) ∨ (680 * tc) + 680 ≤ a → T2 a = T a) → s2 4 = 0 → s2 5 = 0 → s2 6 = -1 → ME [4, 5, 6, 7, 8, 9, 10, 11, 12, 14, 17, 18, 19, 20, 21, 22] s s2 → Fr (72 :: mfl) h h2 → Q [xI (tc : Int)] h2) (kf : tc < 4 → ∀ (fl : Int) (k : Nat), r = .inl (fl, k) → fl ≠ 0 → ∀ (h2 : hc_H) (s2 T2 f2 : Nat → Int), h2.2.2 71 = mo s2 → h2.2.2 74 = ar 2720 T2 → h2.2.2 76 = ar 160 f2 → (∀ a, a < (680 * tc) ∨ (680 * tc) + 680 ≤ a → T2 a = T a) → s2 4 = 0 → s2 5 = fl → s2 6 = ((tP B n k : Nat) : Int) → ME [4, 5, 6, 7, 8, 9, 10, 11, 12, 14, 17, 18, 19, 20, 21, 22] s s2 → Fr (72 :: mfl) h h2 → Q [xI (-1)] h2) : hc_wp (d + 10) mX10_text 0 [xR 71] [] h Q := by
  refine wp_go rfl rfl ?_
  refine e_get rfl H71 rfl rfl ?_
  refine wp_go rfl rfl ?_
  refine e_aldE (p := 5) rfl H72 rfl ⟨by omega, by omega⟩ ?_
  rw [show (A 5) = (tc : Int) from (H.1.2.2.2.2.2.1).trans htc]
  refine wp_go rfl rfl ?_
  refine e_cne rfl (fun c7 => ?_) (fun c7 => ?_)
  · skip
    refine wp_go rfl rfl ?_
    refine wp_go rfl rfl ?_
    refine wp_cv rfl rfl rfl H71 rfl rfl rfl ?_
    refine c_readText (d := d) (tc := tc) hB hn hr H71 H72 H74 H75 H76 e4 (H.1.2.2.2.2.2.1.trans htc) (by omega) (fun nc ft fr st er h2 s2 T2 f2 w A71 A74 A76 hnc hnc2 hw hTM hTF hT2 HM F2 => ?_) (fun fl k er h2 s2 T2 f2 A71 A74 A76 hpl hfl hT2 HM F2 => ?_)
    · skip
      refine e_put (fs' := [xR 72, xR 73, xR 74, xR 75, xI (s2 4), xI 0, xI (s2 6), xI (s2 7), xI (s2 8), xI (s2 9), xI (s2 10), xL (s2 11), xI (s2 12), xI (s2 13), xI (s2 14), xI (s2 15), xR 76, xI (s2 17), xI (s2 18), xI (s2 19), xI (s2 20), xI (s2 21), xI (s2 22), xR 77, xR 78, xR 79, xR 80, xR 81, xR 82, xR 83, xI (s2 30), xR 84, xR 85, xR 86, xR 87, xR 88, xR 89, xR 90]) rfl A71 rfl rfl ?_
      refine wp_go rfl rfl ?_
      refine wp_go rfl rfl ?_
      refine e_get rfl rfl rfl rfl ?_
      refine wp_go rfl rfl ?_
      refine wp_go rfl rfl ?_
      refine wp_go rfl rfl ?_
      refine e_put (fs' := [xR 72, xR 73, xR 74, xR 75, xI (s2 4), xI 0, xI (-1), xI (s2 7), xI (s2 8), xI (s2 9), xI (s2 10), xL (s2 11), xI (s2 12), xI (s2 13), xI (s2 14), xI (s2 15), xR 76, xI (s2 17), xI (s2 18), xI (s2 19), xI (s2 20), xI (s2 21), xI (s2 22), xR 77, xR 78, xR 79, xR 80, xR 81, xR 82, xR 83, xI (s2 30), xR 84, xR 85, xR 86, xR 87, xR 88, xR 89, xR 90]) rfl rfl rfl rfl ?_
      refine wp_go rfl rfl ?_
      refine wp_go rfl rfl ?_
      refine e_put (fs' := [xR 72, xR 73, xR 74, xR 75, xI 0, xI 0, xI (-1), xI (s2 7), xI (s2 8), xI (s2 9), xI (s2 10), xL (s2 11), xI (s2 12), xI (s2 13), xI (s2 14), xI (s2 15), xR 76, xI (s2 17), xI (s2 18), xI (s2 19), xI (s2 20), xI (s2 21), xI (s2 22), xR 77, xR 78, xR 79, xR 80, xR 81, xR 82, xR 83, xI (s2 30), xR 84, xR 85, xR 86, xR 87, xR 88, xR 89, xR 90]) rfl rfl rfl rfl ?_
      refine wp_go rfl rfl ?_
      refine e_get rfl rfl rfl rfl ?_
      refine wp_go rfl rfl ?_
      refine wp_go rfl rfl ?_
      refine e_get rfl rfl rfl rfl ?_
      refine wp_go rfl rfl ?_
      refine wp_go rfl rfl ?_
      refine e_aldE (p := 5) rfl ((F2.2.2 72 rfl).trans H72) rfl ⟨by omega, by omega⟩ ?_
      rw [show (A 5) = (tc : Int) from (H.1.2.2.2.2.2.1).trans htc]
      refine wp_go rfl rfl ?_
      refine e_iadd rfl (by omega) ?_
      refine e_iastE (p := 5) rfl ((F2.2.2 72 rfl).trans H72) ⟨by omega, by omega⟩ ?_
      refine wp_go rfl rfl ?_
      refine e_get rfl rfl rfl rfl ?_
      refine wp_go rfl rfl ?_
      refine e_aldE (p := 5) rfl rfl rfl ⟨by omega, by omega⟩ ?_
      rw [show ((hc_u A 5 ((tc : Int) + 1)) 5) = ((tc : Int) + 1) from hu_s]
      refine wp_go rfl rfl ?_
      refine e_isub rfl (by omega) ?_
      rw [show (tc : Int) + 1 - 1 = (tc : Int) by omega]
      refine wp_ret rfl rfl ?_
      exact kok (by omega) nc ft fr st er _ (hc_u (hc_u (hc_u s2 5 0) 6 (-1)) 4 0) T2 f2 w _ rfl rfl A74 A76 (⟨⟨((hu_n (by omega)).trans H.1.1), ((hu_n (by omega)).trans H.1.2.1), ((hu_n (by omega)).trans H.1.2.2.1), ((hu_n (by omega)).trans H.1.2.2.2.1), ((hu_n (by omega)).trans H.1.2.2.2.2.1), (hu_s.trans rfl), ((hu_n (by omega)).trans H.1.2.2.2.2.2.2.1), ((hu_n (by omega)).trans H.1.2.2.2.2.2.2.2.1), ((hu_n (by omega)).trans H.1.2.2.2.2.2.2.2.2.1), ((hu_n (by omega)).trans H.1.2.2.2.2.2.2.2.2.2)⟩, fun p hp => ⟨((hu_n (by omega)).trans (H.2.1 p hp).1), ((hu_n (by omega)).trans (H.2.1 p hp).2)⟩, fun k hk => ⟨((hu_n (by omega)).trans (H.2.2.1 k hk).1), ((hu_n (by omega)).trans (H.2.2.1 k hk).2.1), ((hu_n (by omega)).trans (H.2.2.1 k hk).2.2)⟩, fun k hk => ((hu_n (by omega)).trans (H.2.2.2.1 k hk)), fun i hi => SGR.eq (H.2.2.2.2 i hi) (fun q hq => ((hu_n (by omega)).trans rfl)) (fun _ _ => rfl)⟩) hnc hnc2 hw hTM hTF hT2 rfl rfl rfl (((((ME.mono HM (nin_sub rfl)).u rfl).u rfl).u rfl)) (((((Fr.mono F2 (nin_sub rfl)).wr rfl).wr rfl).wr rfl).wr rfl)
    · skip
      refine e_put (fs' := [xR 72, xR 73, xR 74, xR 75, xI (s2 4), xI fl, xI (s2 6), xI (s2 7), xI (s2 8), xI (s2 9), xI (s2 10), xL (s2 11), xI (s2 12), xI (s2 13), xI (s2 14), xI (s2 15), xR 76, xI (s2 17), xI (s2 18), xI (s2 19), xI (s2 20), xI (s2 21), xI (s2 22), xR 77, xR 78, xR 79, xR 80, xR 81, xR 82, xR 83, xI (s2 30), xR 84, xR 85, xR 86, xR 87, xR 88, xR 89, xR 90]) rfl A71 rfl rfl ?_
      refine wp_go rfl rfl ?_
      refine wp_go rfl rfl ?_
      refine e_get rfl rfl rfl rfl ?_
      refine e_ifne rfl (fun c25 => ?_) (fun c25 => absurd c25 (by omega))
      refine wp_go rfl rfl ?_
      refine e_get rfl rfl rfl rfl ?_
      refine e_put (fs' := [xR 72, xR 73, xR 74, xR 75, xI (s2 4), xI fl, xI (s2 8), xI (s2 7), xI (s2 8), xI (s2 9), xI (s2 10), xL (s2 11), xI (s2 12), xI (s2 13), xI (s2 14), xI (s2 15), xR 76, xI (s2 17), xI (s2 18), xI (s2 19), xI (s2 20), xI (s2 21), xI (s2 22), xR 77, xR 78, xR 79, xR 80, xR 81, xR 82, xR 83, xI (s2 30), xR 84, xR 85, xR 86, xR 87, xR 88, xR 89, xR 90]) rfl rfl rfl rfl ?_
      refine wp_go rfl rfl ?_
      refine wp_go rfl rfl ?_
      refine e_put (fs' := [xR 72, xR 73, xR 74, xR 75, xI 0, xI fl, xI (s2 8), xI (s2 7), xI (s2 8), xI (s2 9), xI (s2 10), xL (s2 11), xI (s2 12), xI (s2 13), xI (s2 14), xI (s2 15), xR 76, xI (s2 17), xI (s2 18), xI (s2 19), xI (s2 20), xI (s2 21), xI (s2 22), xR 77, xR 78, xR 79, xR 80, xR 81, xR 82, xR 83, xI (s2 30), xR 84, xR 85, xR 86, xR 87, xR 88, xR 89, xR 90]) rfl rfl rfl rfl ?_
      refine wp_go rfl rfl ?_
      refine e_get rfl rfl rfl rfl ?_
      refine e_ifeq rfl (fun c48 => absurd c48 (by omega)) (fun c48 => ?_)
      refine wp_go rfl rfl ?_
      refine wp_ret rfl rfl ?_
      exact kf (by omega) fl k er hfl _ (hc_u (hc_u (hc_u s2 5 fl) 6 (s2 8)) 4 0) T2 f2 rfl A74 A76 hT2 rfl rfl hpl (((((ME.mono HM (nin_sub rfl)).u rfl).u rfl).u rfl)) ((((Fr.mono F2 (nin_sub rfl)).wr rfl).wr rfl).wr rfl)
  · skip
    refine wp_go rfl rfl ?_
    refine wp_ret rfl rfl ?_
    exact k4 (by omega)
