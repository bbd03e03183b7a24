/-! the class: a text is laid -/
theorem TH.kept {h h2 : hc_H} {s : cT} (H : TH h s) (hk : ∀ a, 23 ≤ a → a ≤ 31 → h2.2.2 a = h.2.2 a) : TH h2 s := by
  obtain ⟨a, b, c, d, e, f, ⟨ht, w1⟩, ⟨nm, w2, w3⟩, vs, w4⟩ := H
  exact ⟨(hk 23 (by omega) (by omega)).trans a, (hk 27 (by omega) (by omega)).trans b, (hk 28 (by omega) (by omega)).trans c, (hk 29 (by omega) (by omega)).trans d, (hk 30 (by omega) (by omega)).trans e, (hk 31 (by omega) (by omega)).trans f, ⟨ht, (hk 24 (by omega) (by omega)).trans w1⟩, ⟨nm, w2, (hk 25 (by omega) (by omega)).trans w3⟩, vs, (hk 26 (by omega) (by omega)).trans w4⟩
theorem nin_rng {l : List Nat} {lo hi : Nat} (hl : l.all (fun x => Nat.blt x lo || Nat.blt hi x) = true) : ∀ a, lo ≤ a → a ≤ hi → nin l a = true := by
  induction l with
  | nil => exact fun _ _ _ => rfl
  | cons x l ih =>
    intro a h1 h2
    simp only [List.all_cons, Bool.and_eq_true, Bool.or_eq_true, Nat.blt_eq] at hl
    have : a ≠ x := by omega
    simp only [nin, hc_bne this, cond_false]
    exact ih (by simp only [List.all_eq_true, Bool.or_eq_true, Nat.blt_eq]; simpa only [List.all_eq_true, Bool.or_eq_true, Nat.blt_eq] using hl.2) a h1 h2
theorem FA.rng {l : List Nat} {c s : Nat} {h h2 : hc_H} (F : FA c s l h h2) {lo hi : Nat} (h91 : 91 ≤ h.1) (hh : hi < 91) (hl : l.all (fun x => Nat.blt x lo || Nat.blt hi x) = true) : ∀ a, lo ≤ a → a ≤ hi → h2.2.2 a = h.2.2 a := fun a h1 h3 => F.2.2.2 a (by omega) (nin_rng hl a h1 h3)
def TKC (h : hc_H) : Prop := ∃ (ct ln bh : Int) (bs : hc_V) (ks ps ns : Nat → Int), h.2.2 51 = .inr (6, [xR 52, xR 53, xR 54, xI ct, bs, xI ln, xI bh]) ∧ h.2.2 52 = ar 301 ks ∧ h.2.2 53 = ar 301 ps ∧ h.2.2 54 = ar 301 ns
theorem TOKH.tkc {h : hc_H} {B : Nat → Int} {n : Nat} (H : TOKH h B n) : TKC h := by
  obtain ⟨c, bh, ks, ps, ns, a1, a2, a3, a4, _⟩ := H
  exact ⟨_, _, _, _, _, _, _, a1, a2, a3, a4⟩
theorem TKC.kept {h h2 : hc_H} (H : TKC h) (hk : ∀ a, 51 ≤ a → a ≤ 54 → h2.2.2 a = h.2.2 a) : TKC h2 := by
  obtain ⟨ct, ln, bh, bs, ks, ps, ns, a1, a2, a3, a4⟩ := H
  exact ⟨ct, ln, bh, bs, ks, ps, ns, (hk 51 (by omega) (by omega)).trans a1, (hk 52 (by omega) (by omega)).trans a2, (hk 53 (by omega) (by omega)).trans a3, (hk 54 (by omega) (by omega)).trans a4⟩
theorem RDC.kept {h h2 : hc_H} {hr fo pl : Int} (H : RDC h hr fo pl) (hk : ∀ a, 55 ≤ a → a ≤ 57 → h2.2.2 a = h.2.2 a) : RDC h2 hr fo pl := by
  obtain ⟨wc, co, cl, lw, a, kd, tl, rb, tk, wd, rw_, a1, a2, a3⟩ := H
  exact ⟨wc, co, cl, lw, a, kd, tl, rb, tk, wd, rw_, (hk 55 (by omega) (by omega)).trans a1, (hk 56 (by omega) (by omega)).trans a2, (hk 57 (by omega) (by omega)).trans a3⟩
theorem TOKB.tt {h : hc_H} {t : Nat} {ft fr : Option ef} {nc : Nat} {rows : Nat → Int} (H : TOKB h t ft fr nc rows) : TT h (some t) := by
  obtain ⟨rt, rr, ra, a, b, _⟩ := H
  exact ⟨b, _, a⟩
def txS (s : cT) (t : Nat) : cT := (s.nf, s.dy, s.rn, s.x, s.wt, s.tc + 1, s.ru, s.sc, s.mk, s.sl, hc_u s.tx (Int.toNat s.tc) (some t), s.fs, s.ct, s.rs)
abbrev tyl : List Nat := [22, 51, 52, 53, 54, 55, 56, 57]
abbrev tyl2 : List Nat := [22, 23, 29, 51, 52, 53, 54, 55, 56, 57]
set_option maxRecDepth 100000 in
theorem p_text {d : Nat} {h : hc_H} {Q : List hc_V → hc_H → Prop} {n : Nat} {v : ef} {r : (Int × Nat) ⊕ (Nat × Option ef × Option ef × (Nat → Nat))} {hr0 fo pl : Int} {B : Nat → Int} {cs : cT} (hB : BY B) (hn : n ≤ 300) (h91 : 91 ≤ h.1) (htc : 0 ≤ cs.tc ∧ cs.tc ≤ 4) (HS : STR h) (hr : sTx (tK B n) (tN B n) v 25 0 0 none none (fun _ => 0) = r) (H22 : h.2.2 22 = cco (n : Int)) (H : TH h cs) (H70 : h.2.2 70 = ar 300 B) (HK : TKC h) (HR : RDC h hr0 fo pl) (k4 : cs.tc = 4 → Q [xI (-1)] h) (kf : cs.tc < 4 → ∀ (fl : Int) (k : Nat), r = .inl (fl, k) → ∀ h2 : hc_H, RDC h2 1 fl ((tP B n k : Nat) : Int) → TKC h2 → h2.2.2 22 = cco 0 → FA 30 8000 tyl h h2 → Q [xI (-1)] h2) (kok : cs.tc < 4 → ∀ (nc : Nat) (ft fr : Option ef) (st : Nat → Nat), r = .inr (nc, ft, fr, st) → ∀ (h2 : hc_H) (ta : Nat) (rows : Nat → Int), TOKB h2 ta ft fr nc rows → RDC h2 1 0 (-1) → TKC h2 → RWS (tK B n) (tN B n) rows nc st → h2.2.2 22 = cco 0 → TH h2 (txS cs ta) → FA 30 8000 tyl2 h h2 → Q [xI cs.tc] h2) : hc_wp (d + 95) mX9_text 0 [xR 22, none] [] h Q := by
  obtain ⟨ct, ln, bh, bs, ks, ps, ns, H51, H52, H53, H54⟩ := HK
  obtain ⟨wc, co, cl, lw, a, kd, tl, rb, tk, wd, rw_, H55, H56, H57⟩ := HR
  refine wp_go rfl rfl ?_
  refine e_get rfl H22 rfl rfl ?_
  refine e_get rfl H.1 rfl rfl ?_
  refine wp_go rfl rfl ?_
  refine e_clt rfl (fun c8 => ?_) (fun c8 => ?_)
  · skip
    refine wp_go rfl rfl ?_
    refine e_get rfl H22 rfl rfl ?_
    refine wp_go rfl rfl ?_
    refine e_get rfl H22 rfl rfl ?_
    refine wp_go rfl rfl ?_
    refine e_get rfl H22 rfl rfl ?_
    refine wp_cv rfl rfl rfl H51 rfl rfl rfl ?_
    refine c_scan (d := d + 87) hB hn HS H51 H70 H52 H53 H54 (fun h2 T2 F2 => ?_)
    obtain ⟨c5, b5, k5, p5, n5, J51, J52⟩ := id T2
    refine wp_go rfl rfl ?_
    refine e_get rfl ((F2.2.2 22 rfl).trans H22) rfl rfl ?_
    refine wp_go rfl rfl ?_
    refine e_get rfl ((F2.2.2 22 rfl).trans H22) rfl rfl ?_
    have e91 := F2.1
    have H55b := (F2.2.2 55 rfl).trans H55
    have H56b := (F2.2.2 56 rfl).trans H56
    have H57b := (F2.2.2 57 rfl).trans H57
    refine wp_cv rfl rfl rfl ((F2.2.2 55 rfl).trans H55) rfl rfl rfl ?_
    refine c_readB (d := d) (v := v) hB hn (by omega) T2 hr H55b H56b H57b (fun fl k e h3 S3 G3_ => ?_) (fun nc ft fr st e h3 ta rows K3 R3 W3 G3_ => ?_)
    · skip
      refine e_astn (L' := [xR 22, xN]) rfl rfl rfl ?_
      refine wp_go rfl rfl ?_
      refine wp_go rfl rfl ?_
      refine e_put (fs' := [xR 23, xR 37, xR 51, xR 55, xR 58, xR 65, xR 70, xI 0]) rfl ((G3_.2.2.2 22 (by omega) rfl).trans ((F2.2.2 22 rfl).trans H22)) rfl rfl ?_
      refine wp_go rfl rfl ?_
      refine wp_go rfl rfl ?_
      refine wp_go rfl rfl ?_
      refine wp_go rfl rfl ?_
      refine wp_ret rfl rfl ?_
      exact kf (by omega) fl k e _ (S3.rdc.kept (fun a h1 h4 => hw_ne (show a ≠ 22 by omega) rfl)) ((T2.fa G3_ (by omega) rfl).tkc.kept (fun a h1 h4 => hw_ne (show a ≠ 22 by omega) rfl)) rfl (((F2.fa.tr G3_ (nin_sub (l2 := [51, 52, 53, 54, 55, 56, 57]) rfl) (nin_sub rfl)).tr ((Fr.rf (l := [22])).wr rfl).fa (nin_sub (l2 := tyl) rfl) (nin_sub rfl)).le (by omega) (by omega) (fun _ z => z))
    · skip
      have T3 : TH h3 cs := H.kept (fun a h1 h4 => (G3_.rng (by omega) (by omega) rfl a h1 h4).trans (F2.2.2 a (nin_rng (lo := 23) (hi := 31) rfl a h1 h4)))
      refine e_astn (L' := [xR 22, xR ta]) rfl rfl rfl ?_
      refine wp_go rfl rfl ?_
      refine wp_go rfl rfl ?_
      refine e_put (fs' := [xR 23, xR 37, xR 51, xR 55, xR 58, xR 65, xR 70, xI 0]) rfl ((G3_.2.2.2 22 (by omega) rfl).trans ((F2.2.2 22 rfl).trans H22)) rfl rfl ?_
      refine wp_go rfl rfl ?_
      refine wp_go rfl rfl ?_
      have K3w : TOKB (hc_wr h3 22 (cco 0)) ta ft fr nc rows := K3.fa (((Fr.rf (l := [22])).wr rfl).fa) rfl
      refine wp_go rfl rfl ?_
      refine e_get rfl rfl rfl rfl ?_
      refine wp_go rfl rfl ?_
      refine wp_cv rfl rfl rfl T3.1 rfl rfl rfl ?_
      refine c_addText (d := d + 94) (s := cs) (t := ta) (T3.kept (fun a h1 h4 => hw_ne (show a ≠ 22 by omega) rfl)) ((TOKB.tt K3w).isT) (by omega) (fun qa => ?_) (fun qa h5 T5 F5 => ?_)
      · skip
        exact absurd (show 0 ≤ cs.tc ∧ cs.tc < 4 by omega) qa
      · skip
        refine wp_ret rfl rfl ?_
        exact kok (by omega) nc ft fr st e h5 ta rows (K3w.fa F5.fa rfl) ((R3.kept (fun a h1 h4 => hw_ne (show a ≠ 22 by omega) rfl)).kept (fun a h1 h4 => F5.2.2 a (nin_rng (lo := 55) (hi := 57) rfl a h1 h4))) (((T2.fa G3_ (by omega) rfl).tkc.kept (fun a h1 h4 => hw_ne (show a ≠ 22 by omega) rfl)).kept (fun a h1 h4 => F5.2.2 a (nin_rng (lo := 51) (hi := 54) rfl a h1 h4))) W3 ((F5.2.2 22 rfl).trans rfl) T5 ((((F2.fa.tr G3_ (nin_sub (l2 := [51, 52, 53, 54, 55, 56, 57]) rfl) (nin_sub rfl)).tr ((Fr.rf (l := [22])).wr rfl).fa (nin_sub (l2 := tyl) rfl) (nin_sub rfl)).tr F5.fa (nin_sub (l2 := tyl2) rfl) (nin_sub rfl)).le (by omega) (by omega) (fun _ z => z))
  · skip
    refine wp_go rfl rfl ?_
    refine wp_ret rfl rfl ?_
    exact k4 (by omega)
