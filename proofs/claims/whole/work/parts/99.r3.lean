/-! the class: a text, with where it lies -/
def TOKB (h : hc_H) (t : Nat) (ft fr : Option ef) (nc : Nat) (rows : Nat → Int) : Prop := ∃ (rt rr : Option Nat) (ra : Nat), h.2.2 t = .inr (5, [xQ rt, xQ rr, xI (nc : Int), xR ra]) ∧ 91 ≤ t ∧ 91 ≤ ra ∧ h.2.2 ra = ar (5 * nc) rows ∧ nc ≤ 24 ∧ EOK h rt ft 26 27 ∧ EOK h rr fr 28 29 ∧ t < h.1 ∧ ra < h.1 ∧ LTQ rt h.1 ∧ LTQ rr h.1
theorem TOKB.tok {h : hc_H} {t : Nat} {ft fr : Option ef} {nc : Nat} {rows : Nat → Int} (H : TOKB h t ft fr nc rows) : TOK h t ft fr nc rows := by
  obtain ⟨rt, rr, ra, a, b, c, e, f, g, i, _⟩ := H
  exact ⟨rt, rr, ra, a, b, c, e, f, g, i⟩
theorem TOKB.fa {h h2 : hc_H} {t : Nat} {ft fr : Option ef} {nc c s : Nat} {rows : Nat → Int} {l : List Nat} (H : TOKB h t ft fr nc rows) (F : FA c s l h h2) (hl : l.all (fun x => Nat.blt x 91) = true) : TOKB h2 t ft fr nc rows := by
  obtain ⟨rt, rr, ra, a, b, cc_, e, f, g, i, k, m, n, p⟩ := H
  have h1 := F.1
  exact ⟨rt, rr, ra, (F.2.2.2 t k (nin_big hl b)).trans a, b, cc_, (F.2.2.2 ra m (nin_big hl cc_)).trans e, f, g.fa F hl n, i.fa F hl p, by omega, by omega, fun a_ e_ => by have := n a_ e_; omega, fun a_ e_ => by have := p a_ e_; omega⟩
set_option maxRecDepth 100000 in
theorem l_rdB {B : Nat → Int} {n : Nat} (H : BY B) (hn : n ≤ 300) {v : ef} {r : (Int × Nat) ⊕ (Nat × Option ef × Option ef × (Nat → Nat))} {d : Nat} {h0 : hc_H} {Q : List hc_V → hc_H → Prop} (kN : ∀ (fl : Int) (k : Nat), r = .inl (fl, k) → ∀ h2 : hc_H, ST h2 fl ((tP B n k : Nat) : Int) k → FA 30 8000 [55, 56, 57] h0 h2 → Q [xN] h2) (kT : ∀ (nc : Nat) (ft fr : Option ef) (st : Nat → Nat), r = .inr (nc, ft, fr, st) → ∀ (h2 : hc_H) (t : Nat) (rows : Nat → Int), TOKB h2 t ft fr nc rows → RDC h2 1 0 (-1) → RWS (tK B n) (tN B n) rows nc st → FA 30 8000 [55, 56, 57] h0 h2 → Q [xR t] h2) : ∀ (g i nc : Nat) (ft fr : Option ef) (st : Nat → Nat) (h : hc_H) (rt rr : Option Nat) (wc co : Nat) (lw : Int) (wd rw_ : Nat → Int), sTx (tK B n) (tN B n) v g i nc ft fr st = r → (nc + g = 25 ∧ nc ≤ 24) → i ≤ 300 → 91 ≤ h.1 → TOKH h B n → h.2.2 55 = rdo (wc : Int) (nc : Int) (co : Int) (xQ rt) (xQ rr) lw (i : Int) (tK B n i) 0 (-1) → h.2.2 56 = ar 300 wd → h.2.2 57 = ar 120 rw_ → EOK h rt ft 26 27 → EOK h rr fr 28 29 → LTQ rt h.1 → LTQ rr h.1 → RWS (tK B n) (tN B n) rw_ nc st → FA nc (300 * nc) [55, 56, 57] h0 h → hc_wp (d + 94) mX3_read 51 [xR 55, xR 51, xI (nc : Int)] [] h Q := by
  intro g
  induction g with
  | zero =>
    intro i nc ft fr st h rt rr wc co lw wd rw_ hr hg
    exact absurd hg (by omega)
  | succ g ih =>
    intro i nc ft fr st h rt rr wc co lw wd rw_ hr hg hi h91 HT H55 H56 H57 ET ER LT1 LR1 HR HF
    have hnc : nc ≤ 24 := hg.2
    refine wp_go rfl rfl ?_
    refine wp_go rfl rfl ?_
    refine e_cgt rfl (fun c54 => ?_) (fun c54 => ?_)
    · skip
      exact absurd c54 (by omega)
    · skip
      refine wp_go rfl rfl ?_
      refine e_get rfl H55 rfl rfl ?_
      refine e_ifeq rfl (fun c61 => ?_) (fun c61 => ?_)
      · skip
        rw [sTx, if_pos c61] at hr
        subst hr
        refine wp_go rfl rfl ?_
        refine e_get rfl H55 rfl rfl ?_
        refine wp_go rfl rfl ?_
        refine e_new (fs := [xN, xN, xI 0, xN]) rfl rfl ?_
        have n55 : 55 ≠ h.1 := by omega
        have n57 : 57 ≠ h.1 := by omega
        refine wp_go rfl rfl ?_
        refine wp_go rfl rfl ?_
        refine e_get rfl ((al_ne n55).trans H55) rfl rfl ?_
        refine wp_go rfl rfl ?_
        refine e_get rfl ((al_ne n55).trans H55) rfl rfl ?_
        refine wp_go rfl rfl ?_
        refine e_get rfl ((al_ne n55).trans H55) rfl rfl ?_
        refine wp_go rfl rfl ?_
        refine e_get rfl ((al_ne n55).trans H55) rfl rfl ?_
        refine wp_go rfl rfl ?_
        refine e_get rfl ((al_ne n55).trans H55) rfl rfl ?_
        refine wp_go rfl rfl ?_
        refine e_imul rfl (by omega) ?_
        rw [show ((nc : Int) * 5) = ((5 * nc : Nat) : Int) by omega]
        refine wp_call rfl rfl rfl rfl ?_
        refine c_copyOf (d := d + 92) (m := 5 * nc) ((al_ne n57).trans H57) (by show 57 < h.1 + 1; omega) (by omega) (by omega) (fun h2 rows A1 A2 A3 => ?_)
        refine wp_call rfl rfl rfl rfl ?_
        have A1a : h2.1 = h.1 + 1 + 1 := A1.1
        have A1b : h2.2.1 = h.2.1 + 4 + 5 * nc := A1.2.1
        have A1c : ∀ a, a ≠ h.1 + 1 → h2.2.2 a = (hc_al h [xN, xN, xI 0, xN].length (.inr (5, [xN, xN, xI 0, xN]))).2.2 a := A1.2.2
        have hT : h2.2.2 h.1 = .inr (5, [xN, xN, xI 0, xN]) := (A1c h.1 (by omega)).trans al_at
        refine c_Tinit (d := d + 92) (t := h.1) (p := rt) (q := rr) hT ?_
        refine wp_ret rfl rfl ?_
        have hF : FA 2 124 [55, 56, 57] h (hc_wr h2 h.1 (.inr (5, [xQ rt, xQ rr, xI (nc : Int), xR (h.1 + 1)]))) := by
          refine ⟨by show h.1 ≤ h2.1; omega, by show h2.1 ≤ h.1 + 2; omega, by show h2.2.1 ≤ h.2.1 + 124; omega, fun a ha _ => ?_⟩
          exact (hw_ne (show a ≠ h.1 by omega) ((A1c a (by omega)).trans (al_ne (by omega))))
        refine kT nc ft fr st rfl _ h.1 rows ⟨rt, rr, h.1 + 1, wr_at, h91, by omega, ?_, by omega, ?_, ?_, (by show h.1 < h2.1; omega), (by show h.1 + 1 < h2.1; omega), (fun a e => by have := LT1 a e; show a < h2.1; omega), (fun a e => by have := LR1 a e; show a < h2.1; omega)⟩ ?_ ?_ ?_
        · exact hw_ne (by omega) A2
        · exact ET.fa hF (by decide) LT1
        · exact ER.fa hF (by decide) LR1
        · have kp : ∀ a, a < h.1 → (hc_wr h2 h.1 (.inr (5, [xQ rt, xQ rr, xI (nc : Int), xR (h.1 + 1)]))).2.2 a = h.2.2 a := fun a ha => hw_ne (show a ≠ h.1 by omega) ((A1c a (by omega)).trans (al_ne (by omega)))
          exact ⟨_, _, _, _, _, _, _, _, _, _, _, (kp 55 (by omega)).trans H55, (kp 56 (by omega)).trans H56, (kp 57 (by omega)).trans H57⟩
        · intro k hk
          exact (HR k hk).eq hk A3
        · exact (HF.tr hF (fun _ z => z) (fun _ z => z)).le (by omega) (by omega) (fun _ z => z)
      · skip
        refine wp_go rfl rfl ?_
        refine wp_cv rfl rfl rfl H55 rfl rfl rfl ?_
        rw [sTx, if_neg c61] at hr
        refine c_clause (d := d + 2) (v := v) (ft := ft) (fr := fr) H hn rfl h91 hi hnc HT H55 H56 H57 ET ER LT1 LR1 (fun j ft2 fr2 e h2 wc2 co2 rt2 rr2 lw2 wd2 rw2 Q1 Q2 Q3 Q4 Q5 Q6 Q7 Q8 Q9 Q10 Q11 QF => ?_) (fun fl k e h2 R QF => ?_)
        · skip
          refine e_inc (L' := [xR 55, xR 51, xI ((nc : Int) + 1)]) rfl rfl (by omega) rfl ?_
          refine wp_go rfl rfl ?_
          rw [e] at hr
          dsimp only at hr
          refine ih j (nc + 1) ft2 fr2 (hc_u st nc i) _ rt2 rr2 wc2 co2 lw2 wd2 rw2 hr (by omega) (by omega) (by have := QF.1; omega) (HT.fa QF h91 rfl) Q1 Q2 Q3 Q6 Q7 Q8 Q9 ?_ ?_
          · intro k hk
            by_cases z : k = nc
            · rw [z, show hc_u st nc i nc = i from if_pos rfl]
              exact Q10
            · rw [show hc_u st nc i k = st k from if_neg z]
              exact (HR k (by omega)).eq (by omega) Q11
          · exact (HF.tr QF (fun _ z => z) (fun _ z => z)).le (by omega) (by omega) (fun _ z => z)
        · skip
          refine e_inc (L' := [xR 55, xR 51, xI ((nc : Int) + 1)]) rfl rfl (by omega) rfl ?_
          refine wp_go rfl rfl ?_
          rw [e] at hr
          dsimp only at hr
          refine l_rdS (d := d + 90) R ?_ (24 - nc) ((nc : Int) + 1) (by omega)
          exact kN fl k hr.symm h2 R ((HF.tr QF (fun _ z => z) (fun _ z => z)).le (by omega) (by omega) (fun _ z => z))
set_option maxRecDepth 100000 in
theorem c_readB {d : Nat} {h : hc_H} {Q : List hc_V → hc_H → Prop} {B : Nat → Int} {n wc co : Nat} {v : ef} {r : (Int × Nat) ⊕ (Nat × Option ef × Option ef × (Nat → Nat))} {cl lw a kd hr0 fo pl : Int} {tl rb tk : hc_V} {wd rw_ : Nat → Int} (H : BY B) (hn : n ≤ 300) (h91 : 91 ≤ h.1) (HT : TOKH h B n) (hr : sTx (tK B n) (tN B n) v 25 0 0 none none (fun _ => 0) = r) (H55 : h.2.2 55 = .inr (3, [xR 56, xI (wc : Int), xR 57, xI cl, xI (co : Int), tl, rb, xI lw, tk, xI a, xI kd, xI hr0, xI fo, xI pl])) (H56 : h.2.2 56 = ar 300 wd) (H57 : h.2.2 57 = ar 120 rw_) (kN : ∀ (fl : Int) (k : Nat), r = .inl (fl, k) → ∀ h2 : hc_H, ST h2 fl ((tP B n k : Nat) : Int) k → FA 30 8000 [55, 56, 57] h h2 → Q [xN] h2) (kT : ∀ (nc : Nat) (ft fr : Option ef) (st : Nat → Nat), r = .inr (nc, ft, fr, st) → ∀ (h2 : hc_H) (t : Nat) (rows : Nat → Int), TOKB h2 t ft fr nc rows → RDC h2 1 0 (-1) → RWS (tK B n) (tN B n) rows nc st → FA 30 8000 [55, 56, 57] h h2 → Q [xR t] h2) : hc_wp (d + 94) mX3_read 0 [xR 55, xR 51, none] [] h Q := by
  obtain ⟨c51, bh51, ks51, ps51, ns51, H51, rest51⟩ := id HT
  refine wp_go rfl rfl ?_
  refine wp_go rfl rfl ?_
  refine e_put (fs' := [xR 56, xI (wc : Int), xR 57, xI cl, xI (co : Int), tl, rb, xI lw, tk, xI a, xI kd, xI 1, xI fo, xI pl]) rfl H55 rfl rfl ?_
  refine wp_go rfl rfl ?_
  refine wp_go rfl rfl ?_
  refine e_put (fs' := [xR 56, xI (wc : Int), xR 57, xI cl, xI (co : Int), tl, rb, xI lw, tk, xI a, xI kd, xI 1, xI 0, xI pl]) rfl rfl rfl rfl ?_
  refine wp_go rfl rfl ?_
  refine wp_go rfl rfl ?_
  refine e_put (fs' := [xR 56, xI (wc : Int), xR 57, xI cl, xI (co : Int), tl, rb, xI lw, tk, xI a, xI kd, xI 1, xI 0, xI (-1)]) rfl rfl rfl rfl ?_
  refine wp_go rfl rfl ?_
  refine wp_go rfl rfl ?_
  refine e_put (fs' := [xR 56, xI (wc : Int), xR 57, xI 0, xI (co : Int), tl, rb, xI lw, tk, xI a, xI kd, xI 1, xI 0, xI (-1)]) rfl rfl rfl rfl ?_
  refine wp_go rfl rfl ?_
  refine wp_go rfl rfl ?_
  refine e_put (fs' := [xR 56, xI (wc : Int), xR 57, xI 0, xI (co : Int), xN, rb, xI lw, tk, xI a, xI kd, xI 1, xI 0, xI (-1)]) rfl rfl rfl rfl ?_
  refine wp_go rfl rfl ?_
  refine wp_go rfl rfl ?_
  refine e_put (fs' := [xR 56, xI (wc : Int), xR 57, xI 0, xI (co : Int), xN, xN, xI lw, tk, xI a, xI kd, xI 1, xI 0, xI (-1)]) rfl rfl rfl rfl ?_
  refine wp_go rfl rfl ?_
  refine wp_go rfl rfl ?_
  refine e_put (fs' := [xR 56, xI (wc : Int), xR 57, xI 0, xI (co : Int), xN, xN, xI lw, xR 51, xI a, xI kd, xI 1, xI 0, xI (-1)]) rfl rfl rfl rfl ?_
  refine wp_go rfl rfl ?_
  refine wp_go rfl rfl ?_
  refine e_put (fs' := [xR 56, xI (wc : Int), xR 57, xI 0, xI (co : Int), xN, xN, xI lw, xR 51, xI 0, xI kd, xI 1, xI 0, xI (-1)]) rfl rfl rfl rfl ?_
  refine wp_go rfl rfl ?_
  refine wp_go rfl rfl ?_
  refine wp_go rfl rfl ?_
  refine wp_cv rfl rfl rfl H51 rfl rfl rfl ?_
  refine c_kindT (i := 0) H hn (HT.fr (l := [55]) ((((((((Fr.rf.wr rfl).wr rfl).wr rfl).wr rfl).wr rfl).wr rfl).wr rfl).wr rfl) rfl) ?_
  refine e_put (fs' := [xR 56, xI (wc : Int), xR 57, xI 0, xI (co : Int), xN, xN, xI lw, xR 51, xI 0, xI (tK B n 0), xI 1, xI 0, xI (-1)]) rfl rfl rfl rfl ?_
  refine wp_go rfl rfl ?_
  refine e_istn (L' := [xR 55, xR 51, xI 0]) rfl rfl rfl ?_
  simp only [hw_2]
  exact l_rdB H hn kN kT 25 0 0 none none (fun _ => 0) _ none none wc co lw wd rw_ hr (by omega) (by omega) h91 HT.w5 rfl H56 H57 trivial trivial (fun a e => by cases e) (fun a e => by cases e) (fun k hk => absurd hk (by omega)) ((Fr.rf.wr rfl).fa.le (by omega) (by omega) (fun _ z => z))
