/-! the class: Reader, eighth part: one clause, all of them -/
set_option maxRecDepth 100000 in
theorem c_clause {B : Nat → Int} {n : Nat} (H : BY B) (hn : n ≤ 300) {v : ef} {i nc : Nat} {ft fr : Option ef} {r : (Int × Nat) ⊕ (Nat × Option ef × Option ef)} (hr : sCl (tK B n) (tN B n) v i nc ft fr = r) {d : Nat} {h : hc_H} {Q : List hc_V → hc_H → Prop} {wd rw_ : Nat → Int} {wc co : Nat} {lw : Int} {rt rr : Option Nat} (h91 : 91 ≤ h.1) (hi : i ≤ 300) (hnc : nc ≤ 24) (HT : TOKH h B n) (H55 : h.2.2 55 = rdo (wc : Int) (nc : Int) (co : Int) (xQ rt) (xQ rr) lw (i : Int) (tK B n i) 0 (-1)) (H56 : h.2.2 56 = ar 300 wd) (H57 : h.2.2 57 = ar 120 rw_) (ET : EOK h rt ft 26 27) (ER : EOK h rr fr 28 29) (LT1 : LTQ rt h.1) (LR1 : LTQ rr h.1) (kok : ∀ (j : Nat) (ft2 fr2 : Option ef), r = .inr (j, ft2, fr2) → ∀ (h2 : hc_H) (wc2 co2 : Nat) (rt2 rr2 : Option Nat) (lw2 : Int) (wd2 rw2 : Nat → Int), h2.2.2 55 = rdo (wc2 : Int) ((nc + 1 : Nat) : Int) (co2 : Int) (xQ rt2) (xQ rr2) lw2 (j : Int) (tK B n j) 0 (-1) → h2.2.2 56 = ar 300 wd2 → h2.2.2 57 = ar 120 rw2 → j ≤ 300 → nc < 24 → EOK h2 rt2 ft2 26 27 → EOK h2 rr2 fr2 28 29 → LTQ rt2 h2.1 → LTQ rr2 h2.1 → RWO (tK B n) (tN B n) rw2 nc i → (∀ t, t < 5 * nc → rw2 t = rw_ t) → FA 1 300 [55, 56, 57] h h2 → Q [] h2) (kf : ∀ (fl : Int) (k : Nat), r = .inl (fl, k) → ∀ h2 : hc_H, ST h2 fl ((tP B n k : Nat) : Int) k → FA 1 300 [55, 56, 57] h h2 → Q [] h2) : hc_wp (d + 91) mX3_readClause 0 [xR 55] [] h Q := by
  match rt, ET, LT1, rr, ER, LR1, H55 with
  | none, ET, LT1, none, ER, LR1, H55 =>
    refine wp_go rfl rfl ?_
    refine e_get rfl H55 rfl rfl ?_
    refine wp_go rfl rfl ?_
    refine wp_go rfl rfl ?_
    refine wp_call rfl rfl rfl rfl ?_
    refine c_isWithin  (fun q8 => ?_) (fun q8 => ?_)
    · skip
      refine wp_go rfl rfl ?_
      refine wp_go rfl rfl ?_
      refine e_get rfl H55 rfl rfl ?_
      refine wp_go rfl rfl ?_
      refine e_cne rfl (fun c28 => ?_) (fun c28 => ?_)
      · skip
        refine wp_go rfl rfl ?_
        refine e_get rfl H55 rfl rfl ?_
        refine wp_go rfl rfl ?_
        refine e_cne rfl (fun c44 => ?_) (fun c44 => ?_)
        · skip
          refine wp_go rfl rfl ?_
          refine e_get rfl H55 rfl rfl ?_
          refine wp_go rfl rfl ?_
          refine e_clt rfl (fun c68 => ?_) (fun c68 => ?_)
          · skip
            have h4 : ¬ ((tK B n i = 10 ∧ ft.isSome = true) ∨ (tK B n i = 11 ∧ fr.isSome = true)) := by
              rw [EOK_is ET, EOK_is ER]
              simp <;> omega
            rw [sCl, if_neg (fun z => z q8), if_neg h4, if_neg (show ¬ 24 ≤ nc by omega)] at hr
            refine wp_go rfl rfl ?_
            refine wp_go rfl rfl ?_
            refine e_put (fs' := [xR 56, xI (wc : Int), xR 57, xI (nc : Int), xI 0, xN, xN, xI lw, xR 51, xI (i : Int), xI (tK B n i), xI 1, xI 0, xI (-1)]) rfl H55 rfl rfl ?_
            refine wp_go rfl rfl ?_
            refine wp_go rfl rfl ?_
            refine e_get rfl rfl rfl rfl ?_
            refine wp_cv rfl rfl rfl rfl rfl rfl rfl ?_
            refine c_put (cl := nc) (co := 0) rfl H57 (by omega) (fun _ _ => ?_) (fun z => absurd (show 5 * nc + 0 < 120 ∧ 0 < 5 by omega) z)
            have hlt := tK_lt H hn (show tK B n i ≠ 0 by omega)
            refine wp_go rfl rfl ?_
            refine e_get rfl rfl rfl rfl ?_
            refine wp_go rfl rfl ?_
            refine e_ceq rfl (fun c99 => ?_) (fun c99 => ?_)
            · skip
              refine wp_go rfl rfl ?_
              refine wp_cv rfl rfl rfl rfl rfl rfl rfl ?_
              have hkl : tK B n i = 10 ∨ tK B n i = 11 := by omega
              obtain ⟨q, hq, hqr⟩ := sP_tot (K := tK B n) (N := tN B n) (law := tK B n i) (fun a ha => tK_big H hn ha) 4000 2 0 v (i + 1) (by decide) (by omega) (by have : rnk 2 = 4 := rfl; omega)
              rw [if_pos (show tK B n i ≤ 11 by omega), hq] at hr
              refine c_law (d := d) H hn hkl hq (by exact h91) (HT.fr (((Fr.rf (l := [55, 56, 57])).wr rfl |>.wr rfl).wr rfl) rfl) rfl H56 (fun j V e h2 qa m wq wx Q1 QA Q2 Q3 Q4 Q5 Q6 Q7 Q8 QF => ?_) (fun fl k e h2 wc2 wx tl2 rb2 Q1 Q2 Q3 Q4 QF => ?_)
              · skip
                subst e
                have G55 := Q6 (by omega)
                have G57 := QF.2.2.2 57 (by show 57 < h.1; omega) rfl
                have GT := TOKH.fa (HT.fr (((Fr.rf (l := [55, 56, 57])).wr rfl |>.wr rfl).wr rfl) rfl) QF h91 rfl
                refine wp_go rfl rfl ?_
                refine wp_go rfl rfl ?_
                refine wp_go rfl rfl ?_
                refine wp_cv rfl rfl rfl G55 rfl rfl rfl ?_
                refine c_expL H hn GT (by omega) G55 (fun z52 => ?_) (fun z52 => ?_)
                · skip
                  refine wp_go rfl rfl ?_
                  refine wp_go rfl rfl ?_
                  refine e_get rfl rfl rfl rfl ?_
                  refine wp_go rfl rfl ?_
                  refine e_iadd rfl (by omega) ?_
                  refine e_put (fs' := [xR 56, xI (m : Int), xR 57, xI ((nc : Int) + 1), xI ((1 : Nat) : Int), xR qa, xN, xI (tK B n i), xR 51, xI ((j + 1 : Nat) : Int), xI (tK B n (j + 1)), xI 1, xI 0, xI (-1)]) rfl rfl rfl rfl ?_
                  refine wp_ret rfl rfl ?_
                  dsimp only at hr
                  rw [if_pos z52, if_pos (show tK B n i = 10 by omega), if_neg (show ¬ tK B n i = 11 by omega)] at hr
                  have hl2 := tK_lt H hn (show tK B n j ≠ 0 by rw [z52]; decide)
                  have Q1q : qa = h.1 := Q1
                  have hqa : qa < h2.1 := QA
                  refine kok _ _ _ hr.symm _ m 1 (some qa) none _ wx (hc_u rw_ (5 * nc + 0) (tK B n i)) rfl Q8 G57 (by omega) (by omega) ?_ ?_ ?_ ?_ ⟨hu_s, fun z => absurd z (by omega), fun z => absurd z (by omega), fun z => absurd z (by omega)⟩ (fun t ht => hu_n (by omega)) (FA.le (c2 := 1) (s2 := 300) (FA.tr (l := [55, 56, 57]) (FA.tr (l := [55, 56, 57]) (Fr.fa (((Fr.rf (l := [55, 56, 57])).wr rfl |>.wr rfl).wr rfl)) QF (fun _ z => z) (nin_sub rfl)) (Fr.fa (((Fr.rf (l := [55, 56, 57])).wr rfl).wr rfl)) (fun _ z => z) (fun _ z => z)) (by omega) (by omega) (fun _ z => z))
                  · exact ⟨by omega, m, wq, (hw_ne (by omega) (hw_ne (by omega) Q2)), Q3, fun nm hnm => by have := Q4 nm hnm; rw [show tK B n i = 10 by omega] at this; exact this⟩
                  · exact ER.fa (FA.le (c2 := 1) (s2 := 300) (FA.tr (l := [55, 56, 57]) (FA.tr (l := [55, 56, 57]) (Fr.fa (((Fr.rf (l := [55, 56, 57])).wr rfl |>.wr rfl).wr rfl)) QF (fun _ z => z) (nin_sub rfl)) (Fr.fa (((Fr.rf (l := [55, 56, 57])).wr rfl).wr rfl)) (fun _ z => z) (fun _ z => z)) (by omega) (by omega) (fun _ z => z)) (by decide) LR1
                  · exact fun a e => by cases e; exact hqa
                  · exact LR1.le QF.1
                · skip
                  refine wp_go rfl rfl ?_
                  refine wp_go rfl rfl ?_
                  refine e_get rfl rfl rfl rfl ?_
                  refine wp_go rfl rfl ?_
                  refine e_iadd rfl (by omega) ?_
                  refine e_put (fs' := [xR 56, xI (m : Int), xR 57, xI ((nc : Int) + 1), xI ((1 : Nat) : Int), xR qa, xN, xI (tK B n i), xR 51, xI (j : Int), xI 2, xI 1, xI 1, xI ((tP B n j : Nat) : Int)]) rfl rfl rfl rfl ?_
                  refine wp_ret rfl rfl ?_
                  dsimp only at hr
                  rw [if_neg z52] at hr
                  exact kf _ _ hr.symm _ ⟨m, nc + 1, 1, _, _, _, wx, _, rfl, Q8, G57, by decide⟩ (FA.le (c2 := 1) (s2 := 300) (FA.tr (l := [55, 56, 57]) (FA.tr (l := [55, 56, 57]) (Fr.fa (((Fr.rf (l := [55, 56, 57])).wr rfl |>.wr rfl).wr rfl)) QF (fun _ z => z) (nin_sub rfl)) (Fr.fa (((Fr.rf (l := [55, 56, 57])).wr rfl).wr rfl)) (fun _ z => z) (fun _ z => z)) (by omega) (by omega) (fun _ z => z))
              · skip
                subst e
                have G57 := QF.2.2.2 57 (by show 57 < h.1; omega) rfl
                refine wp_go rfl rfl ?_
                refine wp_go rfl rfl ?_
                refine wp_go rfl rfl ?_
                refine wp_cv rfl rfl rfl Q3 rfl rfl rfl ?_
                refine c_expS Q3 Q2 (by decide) ?_
                refine wp_go rfl rfl ?_
                refine wp_go rfl rfl ?_
                refine e_get rfl Q3 rfl rfl ?_
                refine wp_go rfl rfl ?_
                refine e_iadd rfl (by omega) ?_
                refine e_put (fs' := [xR 56, xI (wc2 : Int), xR 57, xI ((nc : Int) + 1), xI ((1 : Nat) : Int), tl2, rb2, xI (tK B n i), xR 51, xI (k : Int), xI 2, xI 1, xI fl, xI ((tP B n k : Nat) : Int)]) rfl Q3 rfl rfl ?_
                refine wp_ret rfl rfl ?_
                exact kf _ _ hr.symm _ ⟨wc2, nc + 1, 1, _, _, _, wx, _, rfl, Q4, G57, Q2⟩ (FA.le (c2 := 1) (s2 := 300) (FA.tr (l := [55, 56, 57]) (FA.tr (l := [55, 56, 57]) (Fr.fa (((Fr.rf (l := [55, 56, 57])).wr rfl |>.wr rfl).wr rfl)) QF (fun _ z => z) (nin_sub rfl)) (Fr.fa ((Fr.rf (l := [55, 56, 57])).wr rfl)) (fun _ z => z) (fun _ z => z)) (by omega) (by omega) (fun _ z => z))
            · skip
              refine wp_go rfl rfl ?_
              refine e_get rfl rfl rfl rfl ?_
              refine wp_go rfl rfl ?_
              refine e_cne rfl (fun c108 => ?_) (fun c108 => ?_)
              · skip
                refine wp_go rfl rfl ?_
                refine wp_cv rfl rfl rfl rfl rfl rfl rfl ?_
                rw [if_neg (show ¬ tK B n i ≤ 11 by omega)] at hr
                obtain ⟨q, hq⟩ : ∃ z, sDe (tK B n) (tN B n) i = z := ⟨_, rfl⟩
                rw [hq] at hr
                refine c_deed (d := d + 85) H hn (by omega) hq (by omega) (HT.fr (((Fr.rf (l := [55, 56, 57])).wr rfl |>.wr rfl).wr rfl) rfl) rfl rfl (fun e h2 co2 rw2 Q1 Q2 Q3 Q4 Q5 Q6 Q7 Q8 QF => ?_) (fun fl k e h2 R QF => ?_)
                · skip
                  subst e
                  refine wp_go rfl rfl ?_
                  refine wp_go rfl rfl ?_
                  refine wp_cv rfl rfl rfl Q1 rfl rfl rfl ?_
                  refine c_expL H hn ((HT.fr (((Fr.rf (l := [55, 56, 57])).wr rfl |>.wr rfl).wr rfl) rfl).fr QF rfl) (by omega) Q1 (fun z52 => ?_) (fun z52 => ?_)
                  · skip
                    refine wp_go rfl rfl ?_
                    refine wp_go rfl rfl ?_
                    refine e_get rfl rfl rfl rfl ?_
                    refine wp_go rfl rfl ?_
                    refine e_iadd rfl (by omega) ?_
                    refine e_put (fs' := [xR 56, xI (wc : Int), xR 57, xI ((nc : Int) + 1), xI (co2 : Int), xN, xN, xI lw, xR 51, xI ((i + dln (tK B n i) + 1 : Nat) : Int), xI (tK B n (i + dln (tK B n i) + 1)), xI 1, xI 0, xI (-1)]) rfl rfl rfl rfl ?_
                    refine wp_ret rfl rfl ?_
                    dsimp only at hr
                    rw [if_pos z52] at hr
                    have hl2 := tK_lt H hn (show tK B n (i + dln (tK B n i)) ≠ 0 by rw [z52]; decide)
                    have hh1 : h2.1 = h.1 := QF.1
                    refine kok _ _ _ hr.symm _ wc co2 none none _ wd rw2 rfl ((QF.2.2 56 rfl).trans H56) Q3 (by omega) (by omega) ?_ ?_ ?_ ?_ ⟨(Q8 _ (by omega)).trans hu_s, Q4, fun _ z => Q5 z, fun z => ⟨Q6 (by omega), Q7 (by omega)⟩⟩ (fun t ht => (Q8 t (by omega)).trans (hu_n (by omega))) (FA.le (c2 := 1) (s2 := 300) (FA.tr (l := [55, 56, 57]) (FA.tr (l := [55, 56, 57]) (Fr.fa (((Fr.rf (l := [55, 56, 57])).wr rfl |>.wr rfl).wr rfl)) QF.fa (fun _ z => z) (nin_sub rfl)) (Fr.fa (((Fr.rf (l := [55, 56, 57])).wr rfl).wr rfl)) (fun _ z => z) (fun _ z => z)) (by omega) (by omega) (fun _ z => z))
                    · exact ET.fa (FA.le (c2 := 1) (s2 := 300) (FA.tr (l := [55, 56, 57]) (FA.tr (l := [55, 56, 57]) (Fr.fa (((Fr.rf (l := [55, 56, 57])).wr rfl |>.wr rfl).wr rfl)) QF.fa (fun _ z => z) (nin_sub rfl)) (Fr.fa (((Fr.rf (l := [55, 56, 57])).wr rfl).wr rfl)) (fun _ z => z) (fun _ z => z)) (by omega) (by omega) (fun _ z => z)) (by decide) LT1
                    · exact ER.fa (FA.le (c2 := 1) (s2 := 300) (FA.tr (l := [55, 56, 57]) (FA.tr (l := [55, 56, 57]) (Fr.fa (((Fr.rf (l := [55, 56, 57])).wr rfl |>.wr rfl).wr rfl)) QF.fa (fun _ z => z) (nin_sub rfl)) (Fr.fa (((Fr.rf (l := [55, 56, 57])).wr rfl).wr rfl)) (fun _ z => z) (fun _ z => z)) (by omega) (by omega) (fun _ z => z)) (by decide) LR1
                    · exact LT1.le (Nat.le_of_eq hh1.symm)
                    · exact LR1.le (Nat.le_of_eq hh1.symm)
                  · skip
                    refine wp_go rfl rfl ?_
                    refine wp_go rfl rfl ?_
                    refine e_get rfl rfl rfl rfl ?_
                    refine wp_go rfl rfl ?_
                    refine e_iadd rfl (by omega) ?_
                    refine e_put (fs' := [xR 56, xI (wc : Int), xR 57, xI ((nc : Int) + 1), xI (co2 : Int), xN, xN, xI lw, xR 51, xI ((i + dln (tK B n i) : Nat) : Int), xI 2, xI 1, xI 1, xI ((tP B n (i + dln (tK B n i)) : Nat) : Int)]) rfl rfl rfl rfl ?_
                    refine wp_ret rfl rfl ?_
                    dsimp only at hr
                    rw [if_neg z52] at hr
                    exact kf _ _ hr.symm _ ⟨wc, nc + 1, co2, _, _, _, wd, rw2, rfl, (QF.2.2 56 rfl).trans H56, Q3, by decide⟩ (FA.le (c2 := 1) (s2 := 300) (FA.tr (l := [55, 56, 57]) (FA.tr (l := [55, 56, 57]) (Fr.fa (((Fr.rf (l := [55, 56, 57])).wr rfl |>.wr rfl).wr rfl)) QF.fa (fun _ z => z) (nin_sub rfl)) (Fr.fa (((Fr.rf (l := [55, 56, 57])).wr rfl).wr rfl)) (fun _ z => z) (fun _ z => z)) (by omega) (by omega) (fun _ z => z))
                · skip
                  subst e
                  obtain ⟨co2, rq, hw2, G55, G57, hf2⟩ := id R
                  refine wp_go rfl rfl ?_
                  refine wp_go rfl rfl ?_
                  refine wp_cv rfl rfl rfl G55 rfl rfl rfl ?_
                  refine c_expS G55 hf2 (by decide) ?_
                  refine wp_go rfl rfl ?_
                  refine wp_go rfl rfl ?_
                  refine e_get rfl G55 rfl rfl ?_
                  refine wp_go rfl rfl ?_
                  refine e_iadd rfl (by omega) ?_
                  refine e_put (fs' := [xR 56, xI (wc : Int), xR 57, xI ((nc : Int) + 1), xI (co2 : Int), xN, xN, xI lw, xR 51, xI (k : Int), xI 2, xI 1, xI fl, xI ((tP B n k : Nat) : Int)]) rfl G55 rfl rfl ?_
                  refine wp_ret rfl rfl ?_
                  exact kf _ _ hr.symm _ ⟨wc, nc + 1, co2, _, _, _, wd, rq, rfl, (QF.2.2 56 rfl).trans H56, G57, hf2⟩ (FA.le (c2 := 1) (s2 := 300) (FA.tr (l := [55, 56, 57]) (FA.tr (l := [55, 56, 57]) (Fr.fa (((Fr.rf (l := [55, 56, 57])).wr rfl |>.wr rfl).wr rfl)) QF.fa (fun _ z => z) (nin_sub rfl)) (Fr.fa ((Fr.rf (l := [55, 56, 57])).wr rfl)) (fun _ z => z) (fun _ z => z)) (by omega) (by omega) (fun _ z => z))
              · skip
                refine wp_go rfl rfl ?_
                refine wp_cv rfl rfl rfl rfl rfl rfl rfl ?_
                have hkl : tK B n i = 10 ∨ tK B n i = 11 := by omega
                obtain ⟨q, hq, hqr⟩ := sP_tot (K := tK B n) (N := tN B n) (law := tK B n i) (fun a ha => tK_big H hn ha) 4000 2 0 v (i + 1) (by decide) (by omega) (by have : rnk 2 = 4 := rfl; omega)
                rw [if_pos (show tK B n i ≤ 11 by omega), hq] at hr
                refine c_law (d := d) H hn hkl hq (by exact h91) (HT.fr (((Fr.rf (l := [55, 56, 57])).wr rfl |>.wr rfl).wr rfl) rfl) rfl H56 (fun j V e h2 qa m wq wx Q1 QA Q2 Q3 Q4 Q5 Q6 Q7 Q8 QF => ?_) (fun fl k e h2 wc2 wx tl2 rb2 Q1 Q2 Q3 Q4 QF => ?_)
                · skip
                  subst e
                  have G55 := Q7 (by omega)
                  have G57 := QF.2.2.2 57 (by show 57 < h.1; omega) rfl
                  have GT := TOKH.fa (HT.fr (((Fr.rf (l := [55, 56, 57])).wr rfl |>.wr rfl).wr rfl) rfl) QF h91 rfl
                  refine wp_go rfl rfl ?_
                  refine wp_go rfl rfl ?_
                  refine wp_go rfl rfl ?_
                  refine wp_cv rfl rfl rfl G55 rfl rfl rfl ?_
                  refine c_expL H hn GT (by omega) G55 (fun z52 => ?_) (fun z52 => ?_)
                  · skip
                    refine wp_go rfl rfl ?_
                    refine wp_go rfl rfl ?_
                    refine e_get rfl rfl rfl rfl ?_
                    refine wp_go rfl rfl ?_
                    refine e_iadd rfl (by omega) ?_
                    refine e_put (fs' := [xR 56, xI (m : Int), xR 57, xI ((nc : Int) + 1), xI ((1 : Nat) : Int), xN, xR qa, xI (tK B n i), xR 51, xI ((j + 1 : Nat) : Int), xI (tK B n (j + 1)), xI 1, xI 0, xI (-1)]) rfl rfl rfl rfl ?_
                    refine wp_ret rfl rfl ?_
                    dsimp only at hr
                    rw [if_pos z52, if_neg (show ¬ tK B n i = 10 by omega), if_pos (show tK B n i = 11 by omega)] at hr
                    have hl2 := tK_lt H hn (show tK B n j ≠ 0 by rw [z52]; decide)
                    have Q1q : qa = h.1 := Q1
                    have hqa : qa < h2.1 := QA
                    refine kok _ _ _ hr.symm _ m 1 none (some qa) _ wx (hc_u rw_ (5 * nc + 0) (tK B n i)) rfl Q8 G57 (by omega) (by omega) ?_ ?_ ?_ ?_ ⟨hu_s, fun z => absurd z (by omega), fun z => absurd z (by omega), fun z => absurd z (by omega)⟩ (fun t ht => hu_n (by omega)) (FA.le (c2 := 1) (s2 := 300) (FA.tr (l := [55, 56, 57]) (FA.tr (l := [55, 56, 57]) (Fr.fa (((Fr.rf (l := [55, 56, 57])).wr rfl |>.wr rfl).wr rfl)) QF (fun _ z => z) (nin_sub rfl)) (Fr.fa (((Fr.rf (l := [55, 56, 57])).wr rfl).wr rfl)) (fun _ z => z) (fun _ z => z)) (by omega) (by omega) (fun _ z => z))
                    · exact ET.fa (FA.le (c2 := 1) (s2 := 300) (FA.tr (l := [55, 56, 57]) (FA.tr (l := [55, 56, 57]) (Fr.fa (((Fr.rf (l := [55, 56, 57])).wr rfl |>.wr rfl).wr rfl)) QF (fun _ z => z) (nin_sub rfl)) (Fr.fa (((Fr.rf (l := [55, 56, 57])).wr rfl).wr rfl)) (fun _ z => z) (fun _ z => z)) (by omega) (by omega) (fun _ z => z)) (by decide) LT1
                    · exact ⟨by omega, m, wq, (hw_ne (by omega) (hw_ne (by omega) Q2)), Q3, fun nm hnm => by have := Q4 nm hnm; rw [show tK B n i = 11 by omega] at this; exact this⟩
                    · exact LT1.le QF.1
                    · exact fun a e => by cases e; exact hqa
                  · skip
                    refine wp_go rfl rfl ?_
                    refine wp_go rfl rfl ?_
                    refine e_get rfl rfl rfl rfl ?_
                    refine wp_go rfl rfl ?_
                    refine e_iadd rfl (by omega) ?_
                    refine e_put (fs' := [xR 56, xI (m : Int), xR 57, xI ((nc : Int) + 1), xI ((1 : Nat) : Int), xN, xR qa, xI (tK B n i), xR 51, xI (j : Int), xI 2, xI 1, xI 1, xI ((tP B n j : Nat) : Int)]) rfl rfl rfl rfl ?_
                    refine wp_ret rfl rfl ?_
                    dsimp only at hr
                    rw [if_neg z52] at hr
                    exact kf _ _ hr.symm _ ⟨m, nc + 1, 1, _, _, _, wx, _, rfl, Q8, G57, by decide⟩ (FA.le (c2 := 1) (s2 := 300) (FA.tr (l := [55, 56, 57]) (FA.tr (l := [55, 56, 57]) (Fr.fa (((Fr.rf (l := [55, 56, 57])).wr rfl |>.wr rfl).wr rfl)) QF (fun _ z => z) (nin_sub rfl)) (Fr.fa (((Fr.rf (l := [55, 56, 57])).wr rfl).wr rfl)) (fun _ z => z) (fun _ z => z)) (by omega) (by omega) (fun _ z => z))
                · skip
                  subst e
                  have G57 := QF.2.2.2 57 (by show 57 < h.1; omega) rfl
                  refine wp_go rfl rfl ?_
                  refine wp_go rfl rfl ?_
                  refine wp_go rfl rfl ?_
                  refine wp_cv rfl rfl rfl Q3 rfl rfl rfl ?_
                  refine c_expS Q3 Q2 (by decide) ?_
                  refine wp_go rfl rfl ?_
                  refine wp_go rfl rfl ?_
                  refine e_get rfl Q3 rfl rfl ?_
                  refine wp_go rfl rfl ?_
                  refine e_iadd rfl (by omega) ?_
                  refine e_put (fs' := [xR 56, xI (wc2 : Int), xR 57, xI ((nc : Int) + 1), xI ((1 : Nat) : Int), tl2, rb2, xI (tK B n i), xR 51, xI (k : Int), xI 2, xI 1, xI fl, xI ((tP B n k : Nat) : Int)]) rfl Q3 rfl rfl ?_
                  refine wp_ret rfl rfl ?_
                  exact kf _ _ hr.symm _ ⟨wc2, nc + 1, 1, _, _, _, wx, _, rfl, Q4, G57, Q2⟩ (FA.le (c2 := 1) (s2 := 300) (FA.tr (l := [55, 56, 57]) (FA.tr (l := [55, 56, 57]) (Fr.fa (((Fr.rf (l := [55, 56, 57])).wr rfl |>.wr rfl).wr rfl)) QF (fun _ z => z) (nin_sub rfl)) (Fr.fa ((Fr.rf (l := [55, 56, 57])).wr rfl)) (fun _ z => z) (fun _ z => z)) (by omega) (by omega) (fun _ z => z))
          · skip
            have h4 : ¬ ((tK B n i = 10 ∧ ft.isSome = true) ∨ (tK B n i = 11 ∧ fr.isSome = true)) := by
              rw [EOK_is ET, EOK_is ER]
              simp <;> omega
            refine wp_go rfl rfl ?_
            refine wp_go rfl rfl ?_
            refine wp_cv rfl rfl rfl H55 rfl rfl rfl ?_
            refine c_refL H hn HT H55 ?_
            refine wp_go rfl rfl ?_
            refine wp_ret rfl rfl ?_
            rw [sCl, if_neg (fun z => z q8), if_neg h4, if_pos (show 24 ≤ nc by omega)] at hr
            exact kf _ _ hr.symm _ ⟨wc, nc, co, _, _, _, wd, rw_, rfl, H56, H57, by decide⟩ (FA.le (Fr.fa ((Fr.rf (l := [55, 56, 57])).wr rfl)) (by omega) (by omega) (fun _ z => z))
        · skip
          refine wp_go rfl rfl ?_
          refine e_get rfl H55 rfl rfl ?_
          refine wp_go rfl rfl ?_
          refine wp_go rfl rfl ?_
          refine e_get rfl H55 rfl rfl ?_
          refine wp_go rfl rfl ?_
          refine e_clt rfl (fun c68 => ?_) (fun c68 => ?_)
          · skip
            have h4 : ¬ ((tK B n i = 10 ∧ ft.isSome = true) ∨ (tK B n i = 11 ∧ fr.isSome = true)) := by
              rw [EOK_is ET, EOK_is ER]
              simp <;> omega
            rw [sCl, if_neg (fun z => z q8), if_neg h4, if_neg (show ¬ 24 ≤ nc by omega)] at hr
            refine wp_go rfl rfl ?_
            refine wp_go rfl rfl ?_
            refine e_put (fs' := [xR 56, xI (wc : Int), xR 57, xI (nc : Int), xI 0, xN, xN, xI lw, xR 51, xI (i : Int), xI (tK B n i), xI 1, xI 0, xI (-1)]) rfl H55 rfl rfl ?_
            refine wp_go rfl rfl ?_
            refine wp_go rfl rfl ?_
            refine e_get rfl rfl rfl rfl ?_
            refine wp_cv rfl rfl rfl rfl rfl rfl rfl ?_
            refine c_put (cl := nc) (co := 0) rfl H57 (by omega) (fun _ _ => ?_) (fun z => absurd (show 5 * nc + 0 < 120 ∧ 0 < 5 by omega) z)
            have hlt := tK_lt H hn (show tK B n i ≠ 0 by omega)
            refine wp_go rfl rfl ?_
            refine e_get rfl rfl rfl rfl ?_
            refine wp_go rfl rfl ?_
            refine e_ceq rfl (fun c99 => ?_) (fun c99 => ?_)
            · skip
              refine wp_go rfl rfl ?_
              refine wp_cv rfl rfl rfl rfl rfl rfl rfl ?_
              have hkl : tK B n i = 10 ∨ tK B n i = 11 := by omega
              obtain ⟨q, hq, hqr⟩ := sP_tot (K := tK B n) (N := tN B n) (law := tK B n i) (fun a ha => tK_big H hn ha) 4000 2 0 v (i + 1) (by decide) (by omega) (by have : rnk 2 = 4 := rfl; omega)
              rw [if_pos (show tK B n i ≤ 11 by omega), hq] at hr
              refine c_law (d := d) H hn hkl hq (by exact h91) (HT.fr (((Fr.rf (l := [55, 56, 57])).wr rfl |>.wr rfl).wr rfl) rfl) rfl H56 (fun j V e h2 qa m wq wx Q1 QA Q2 Q3 Q4 Q5 Q6 Q7 Q8 QF => ?_) (fun fl k e h2 wc2 wx tl2 rb2 Q1 Q2 Q3 Q4 QF => ?_)
              · skip
                subst e
                have G55 := Q6 (by omega)
                have G57 := QF.2.2.2 57 (by show 57 < h.1; omega) rfl
                have GT := TOKH.fa (HT.fr (((Fr.rf (l := [55, 56, 57])).wr rfl |>.wr rfl).wr rfl) rfl) QF h91 rfl
                refine wp_go rfl rfl ?_
                refine wp_go rfl rfl ?_
                refine wp_go rfl rfl ?_
                refine wp_cv rfl rfl rfl G55 rfl rfl rfl ?_
                refine c_expL H hn GT (by omega) G55 (fun z52 => ?_) (fun z52 => ?_)
                · skip
                  refine wp_go rfl rfl ?_
                  refine wp_go rfl rfl ?_
                  refine e_get rfl rfl rfl rfl ?_
                  refine wp_go rfl rfl ?_
                  refine e_iadd rfl (by omega) ?_
                  refine e_put (fs' := [xR 56, xI (m : Int), xR 57, xI ((nc : Int) + 1), xI ((1 : Nat) : Int), xR qa, xN, xI (tK B n i), xR 51, xI ((j + 1 : Nat) : Int), xI (tK B n (j + 1)), xI 1, xI 0, xI (-1)]) rfl rfl rfl rfl ?_
                  refine wp_ret rfl rfl ?_
                  dsimp only at hr
                  rw [if_pos z52, if_pos (show tK B n i = 10 by omega), if_neg (show ¬ tK B n i = 11 by omega)] at hr
                  have hl2 := tK_lt H hn (show tK B n j ≠ 0 by rw [z52]; decide)
                  have Q1q : qa = h.1 := Q1
                  have hqa : qa < h2.1 := QA
                  refine kok _ _ _ hr.symm _ m 1 (some qa) none _ wx (hc_u rw_ (5 * nc + 0) (tK B n i)) rfl Q8 G57 (by omega) (by omega) ?_ ?_ ?_ ?_ ⟨hu_s, fun z => absurd z (by omega), fun z => absurd z (by omega), fun z => absurd z (by omega)⟩ (fun t ht => hu_n (by omega)) (FA.le (c2 := 1) (s2 := 300) (FA.tr (l := [55, 56, 57]) (FA.tr (l := [55, 56, 57]) (Fr.fa (((Fr.rf (l := [55, 56, 57])).wr rfl |>.wr rfl).wr rfl)) QF (fun _ z => z) (nin_sub rfl)) (Fr.fa (((Fr.rf (l := [55, 56, 57])).wr rfl).wr rfl)) (fun _ z => z) (fun _ z => z)) (by omega) (by omega) (fun _ z => z))
                  · exact ⟨by omega, m, wq, (hw_ne (by omega) (hw_ne (by omega) Q2)), Q3, fun nm hnm => by have := Q4 nm hnm; rw [show tK B n i = 10 by omega] at this; exact this⟩
                  · exact ER.fa (FA.le (c2 := 1) (s2 := 300) (FA.tr (l := [55, 56, 57]) (FA.tr (l := [55, 56, 57]) (Fr.fa (((Fr.rf (l := [55, 56, 57])).wr rfl |>.wr rfl).wr rfl)) QF (fun _ z => z) (nin_sub rfl)) (Fr.fa (((Fr.rf (l := [55, 56, 57])).wr rfl).wr rfl)) (fun _ z => z) (fun _ z => z)) (by omega) (by omega) (fun _ z => z)) (by decide) LR1
                  · exact fun a e => by cases e; exact hqa
                  · exact LR1.le QF.1
                · skip
                  refine wp_go rfl rfl ?_
                  refine wp_go rfl rfl ?_
                  refine e_get rfl rfl rfl rfl ?_
                  refine wp_go rfl rfl ?_
                  refine e_iadd rfl (by omega) ?_
                  refine e_put (fs' := [xR 56, xI (m : Int), xR 57, xI ((nc : Int) + 1), xI ((1 : Nat) : Int), xR qa, xN, xI (tK B n i), xR 51, xI (j : Int), xI 2, xI 1, xI 1, xI ((tP B n j : Nat) : Int)]) rfl rfl rfl rfl ?_
                  refine wp_ret rfl rfl ?_
                  dsimp only at hr
                  rw [if_neg z52] at hr
                  exact kf _ _ hr.symm _ ⟨m, nc + 1, 1, _, _, _, wx, _, rfl, Q8, G57, by decide⟩ (FA.le (c2 := 1) (s2 := 300) (FA.tr (l := [55, 56, 57]) (FA.tr (l := [55, 56, 57]) (Fr.fa (((Fr.rf (l := [55, 56, 57])).wr rfl |>.wr rfl).wr rfl)) QF (fun _ z => z) (nin_sub rfl)) (Fr.fa (((Fr.rf (l := [55, 56, 57])).wr rfl).wr rfl)) (fun _ z => z) (fun _ z => z)) (by omega) (by omega) (fun _ z => z))
              · skip
                subst e
                have G57 := QF.2.2.2 57 (by show 57 < h.1; omega) rfl
                refine wp_go rfl rfl ?_
                refine wp_go rfl rfl ?_
                refine wp_go rfl rfl ?_
                refine wp_cv rfl rfl rfl Q3 rfl rfl rfl ?_
                refine c_expS Q3 Q2 (by decide) ?_
                refine wp_go rfl rfl ?_
                refine wp_go rfl rfl ?_
                refine e_get rfl Q3 rfl rfl ?_
                refine wp_go rfl rfl ?_
                refine e_iadd rfl (by omega) ?_
                refine e_put (fs' := [xR 56, xI (wc2 : Int), xR 57, xI ((nc : Int) + 1), xI ((1 : Nat) : Int), tl2, rb2, xI (tK B n i), xR 51, xI (k : Int), xI 2, xI 1, xI fl, xI ((tP B n k : Nat) : Int)]) rfl Q3 rfl rfl ?_
                refine wp_ret rfl rfl ?_
                exact kf _ _ hr.symm _ ⟨wc2, nc + 1, 1, _, _, _, wx, _, rfl, Q4, G57, Q2⟩ (FA.le (c2 := 1) (s2 := 300) (FA.tr (l := [55, 56, 57]) (FA.tr (l := [55, 56, 57]) (Fr.fa (((Fr.rf (l := [55, 56, 57])).wr rfl |>.wr rfl).wr rfl)) QF (fun _ z => z) (nin_sub rfl)) (Fr.fa ((Fr.rf (l := [55, 56, 57])).wr rfl)) (fun _ z => z) (fun _ z => z)) (by omega) (by omega) (fun _ z => z))
            · skip
              refine wp_go rfl rfl ?_
              refine e_get rfl rfl rfl rfl ?_
              refine wp_go rfl rfl ?_
              refine e_cne rfl (fun c108 => ?_) (fun c108 => ?_)
              · skip
                refine wp_go rfl rfl ?_
                refine wp_cv rfl rfl rfl rfl rfl rfl rfl ?_
                rw [if_neg (show ¬ tK B n i ≤ 11 by omega)] at hr
                obtain ⟨q, hq⟩ : ∃ z, sDe (tK B n) (tN B n) i = z := ⟨_, rfl⟩
                rw [hq] at hr
                refine c_deed (d := d + 85) H hn (by omega) hq (by omega) (HT.fr (((Fr.rf (l := [55, 56, 57])).wr rfl |>.wr rfl).wr rfl) rfl) rfl rfl (fun e h2 co2 rw2 Q1 Q2 Q3 Q4 Q5 Q6 Q7 Q8 QF => ?_) (fun fl k e h2 R QF => ?_)
                · skip
                  subst e
                  refine wp_go rfl rfl ?_
                  refine wp_go rfl rfl ?_
                  refine wp_cv rfl rfl rfl Q1 rfl rfl rfl ?_
                  refine c_expL H hn ((HT.fr (((Fr.rf (l := [55, 56, 57])).wr rfl |>.wr rfl).wr rfl) rfl).fr QF rfl) (by omega) Q1 (fun z52 => ?_) (fun z52 => ?_)
                  · skip
                    refine wp_go rfl rfl ?_
                    refine wp_go rfl rfl ?_
                    refine e_get rfl rfl rfl rfl ?_
                    refine wp_go rfl rfl ?_
                    refine e_iadd rfl (by omega) ?_
                    refine e_put (fs' := [xR 56, xI (wc : Int), xR 57, xI ((nc : Int) + 1), xI (co2 : Int), xN, xN, xI lw, xR 51, xI ((i + dln (tK B n i) + 1 : Nat) : Int), xI (tK B n (i + dln (tK B n i) + 1)), xI 1, xI 0, xI (-1)]) rfl rfl rfl rfl ?_
                    refine wp_ret rfl rfl ?_
                    dsimp only at hr
                    rw [if_pos z52] at hr
                    have hl2 := tK_lt H hn (show tK B n (i + dln (tK B n i)) ≠ 0 by rw [z52]; decide)
                    have hh1 : h2.1 = h.1 := QF.1
                    refine kok _ _ _ hr.symm _ wc co2 none none _ wd rw2 rfl ((QF.2.2 56 rfl).trans H56) Q3 (by omega) (by omega) ?_ ?_ ?_ ?_ ⟨(Q8 _ (by omega)).trans hu_s, Q4, fun _ z => Q5 z, fun z => ⟨Q6 (by omega), Q7 (by omega)⟩⟩ (fun t ht => (Q8 t (by omega)).trans (hu_n (by omega))) (FA.le (c2 := 1) (s2 := 300) (FA.tr (l := [55, 56, 57]) (FA.tr (l := [55, 56, 57]) (Fr.fa (((Fr.rf (l := [55, 56, 57])).wr rfl |>.wr rfl).wr rfl)) QF.fa (fun _ z => z) (nin_sub rfl)) (Fr.fa (((Fr.rf (l := [55, 56, 57])).wr rfl).wr rfl)) (fun _ z => z) (fun _ z => z)) (by omega) (by omega) (fun _ z => z))
                    · exact ET.fa (FA.le (c2 := 1) (s2 := 300) (FA.tr (l := [55, 56, 57]) (FA.tr (l := [55, 56, 57]) (Fr.fa (((Fr.rf (l := [55, 56, 57])).wr rfl |>.wr rfl).wr rfl)) QF.fa (fun _ z => z) (nin_sub rfl)) (Fr.fa (((Fr.rf (l := [55, 56, 57])).wr rfl).wr rfl)) (fun _ z => z) (fun _ z => z)) (by omega) (by omega) (fun _ z => z)) (by decide) LT1
                    · exact ER.fa (FA.le (c2 := 1) (s2 := 300) (FA.tr (l := [55, 56, 57]) (FA.tr (l := [55, 56, 57]) (Fr.fa (((Fr.rf (l := [55, 56, 57])).wr rfl |>.wr rfl).wr rfl)) QF.fa (fun _ z => z) (nin_sub rfl)) (Fr.fa (((Fr.rf (l := [55, 56, 57])).wr rfl).wr rfl)) (fun _ z => z) (fun _ z => z)) (by omega) (by omega) (fun _ z => z)) (by decide) LR1
                    · exact LT1.le (Nat.le_of_eq hh1.symm)
                    · exact LR1.le (Nat.le_of_eq hh1.symm)
                  · skip
                    refine wp_go rfl rfl ?_
                    refine wp_go rfl rfl ?_
                    refine e_get rfl rfl rfl rfl ?_
                    refine wp_go rfl rfl ?_
                    refine e_iadd rfl (by omega) ?_
                    refine e_put (fs' := [xR 56, xI (wc : Int), xR 57, xI ((nc : Int) + 1), xI (co2 : Int), xN, xN, xI lw, xR 51, xI ((i + dln (tK B n i) : Nat) : Int), xI 2, xI 1, xI 1, xI ((tP B n (i + dln (tK B n i)) : Nat) : Int)]) rfl rfl rfl rfl ?_
                    refine wp_ret rfl rfl ?_
                    dsimp only at hr
                    rw [if_neg z52] at hr
                    exact kf _ _ hr.symm _ ⟨wc, nc + 1, co2, _, _, _, wd, rw2, rfl, (QF.2.2 56 rfl).trans H56, Q3, by decide⟩ (FA.le (c2 := 1) (s2 := 300) (FA.tr (l := [55, 56, 57]) (FA.tr (l := [55, 56, 57]) (Fr.fa (((Fr.rf (l := [55, 56, 57])).wr rfl |>.wr rfl).wr rfl)) QF.fa (fun _ z => z) (nin_sub rfl)) (Fr.fa (((Fr.rf (l := [55, 56, 57])).wr rfl).wr rfl)) (fun _ z => z) (fun _ z => z)) (by omega) (by omega) (fun _ z => z))
                · skip
                  subst e
                  obtain ⟨co2, rq, hw2, G55, G57, hf2⟩ := id R
                  refine wp_go rfl rfl ?_
                  refine wp_go rfl rfl ?_
                  refine wp_cv rfl rfl rfl G55 rfl rfl rfl ?_
                  refine c_expS G55 hf2 (by decide) ?_
                  refine wp_go rfl rfl ?_
                  refine wp_go rfl rfl ?_
                  refine e_get rfl G55 rfl rfl ?_
                  refine wp_go rfl rfl ?_
                  refine e_iadd rfl (by omega) ?_
                  refine e_put (fs' := [xR 56, xI (wc : Int), xR 57, xI ((nc : Int) + 1), xI (co2 : Int), xN, xN, xI lw, xR 51, xI (k : Int), xI 2, xI 1, xI fl, xI ((tP B n k : Nat) : Int)]) rfl G55 rfl rfl ?_
                  refine wp_ret rfl rfl ?_
                  exact kf _ _ hr.symm _ ⟨wc, nc + 1, co2, _, _, _, wd, rq, rfl, (QF.2.2 56 rfl).trans H56, G57, hf2⟩ (FA.le (c2 := 1) (s2 := 300) (FA.tr (l := [55, 56, 57]) (FA.tr (l := [55, 56, 57]) (Fr.fa (((Fr.rf (l := [55, 56, 57])).wr rfl |>.wr rfl).wr rfl)) QF.fa (fun _ z => z) (nin_sub rfl)) (Fr.fa ((Fr.rf (l := [55, 56, 57])).wr rfl)) (fun _ z => z) (fun _ z => z)) (by omega) (by omega) (fun _ z => z))
              · skip
                refine wp_go rfl rfl ?_
                refine wp_cv rfl rfl rfl rfl rfl rfl rfl ?_
                have hkl : tK B n i = 10 ∨ tK B n i = 11 := by omega
                obtain ⟨q, hq, hqr⟩ := sP_tot (K := tK B n) (N := tN B n) (law := tK B n i) (fun a ha => tK_big H hn ha) 4000 2 0 v (i + 1) (by decide) (by omega) (by have : rnk 2 = 4 := rfl; omega)
                rw [if_pos (show tK B n i ≤ 11 by omega), hq] at hr
                refine c_law (d := d) H hn hkl hq (by exact h91) (HT.fr (((Fr.rf (l := [55, 56, 57])).wr rfl |>.wr rfl).wr rfl) rfl) rfl H56 (fun j V e h2 qa m wq wx Q1 QA Q2 Q3 Q4 Q5 Q6 Q7 Q8 QF => ?_) (fun fl k e h2 wc2 wx tl2 rb2 Q1 Q2 Q3 Q4 QF => ?_)
                · skip
                  subst e
                  have G55 := Q7 (by omega)
                  have G57 := QF.2.2.2 57 (by show 57 < h.1; omega) rfl
                  have GT := TOKH.fa (HT.fr (((Fr.rf (l := [55, 56, 57])).wr rfl |>.wr rfl).wr rfl) rfl) QF h91 rfl
                  refine wp_go rfl rfl ?_
                  refine wp_go rfl rfl ?_
                  refine wp_go rfl rfl ?_
                  refine wp_cv rfl rfl rfl G55 rfl rfl rfl ?_
                  refine c_expL H hn GT (by omega) G55 (fun z52 => ?_) (fun z52 => ?_)
                  · skip
                    refine wp_go rfl rfl ?_
                    refine wp_go rfl rfl ?_
                    refine e_get rfl rfl rfl rfl ?_
                    refine wp_go rfl rfl ?_
                    refine e_iadd rfl (by omega) ?_
                    refine e_put (fs' := [xR 56, xI (m : Int), xR 57, xI ((nc : Int) + 1), xI ((1 : Nat) : Int), xN, xR qa, xI (tK B n i), xR 51, xI ((j + 1 : Nat) : Int), xI (tK B n (j + 1)), xI 1, xI 0, xI (-1)]) rfl rfl rfl rfl ?_
                    refine wp_ret rfl rfl ?_
                    dsimp only at hr
                    rw [if_pos z52, if_neg (show ¬ tK B n i = 10 by omega), if_pos (show tK B n i = 11 by omega)] at hr
                    have hl2 := tK_lt H hn (show tK B n j ≠ 0 by rw [z52]; decide)
                    have Q1q : qa = h.1 := Q1
                    have hqa : qa < h2.1 := QA
                    refine kok _ _ _ hr.symm _ m 1 none (some qa) _ wx (hc_u rw_ (5 * nc + 0) (tK B n i)) rfl Q8 G57 (by omega) (by omega) ?_ ?_ ?_ ?_ ⟨hu_s, fun z => absurd z (by omega), fun z => absurd z (by omega), fun z => absurd z (by omega)⟩ (fun t ht => hu_n (by omega)) (FA.le (c2 := 1) (s2 := 300) (FA.tr (l := [55, 56, 57]) (FA.tr (l := [55, 56, 57]) (Fr.fa (((Fr.rf (l := [55, 56, 57])).wr rfl |>.wr rfl).wr rfl)) QF (fun _ z => z) (nin_sub rfl)) (Fr.fa (((Fr.rf (l := [55, 56, 57])).wr rfl).wr rfl)) (fun _ z => z) (fun _ z => z)) (by omega) (by omega) (fun _ z => z))
                    · exact ET.fa (FA.le (c2 := 1) (s2 := 300) (FA.tr (l := [55, 56, 57]) (FA.tr (l := [55, 56, 57]) (Fr.fa (((Fr.rf (l := [55, 56, 57])).wr rfl |>.wr rfl).wr rfl)) QF (fun _ z => z) (nin_sub rfl)) (Fr.fa (((Fr.rf (l := [55, 56, 57])).wr rfl).wr rfl)) (fun _ z => z) (fun _ z => z)) (by omega) (by omega) (fun _ z => z)) (by decide) LT1
                    · exact ⟨by omega, m, wq, (hw_ne (by omega) (hw_ne (by omega) Q2)), Q3, fun nm hnm => by have := Q4 nm hnm; rw [show tK B n i = 11 by omega] at this; exact this⟩
                    · exact LT1.le QF.1
                    · exact fun a e => by cases e; exact hqa
                  · skip
                    refine wp_go rfl rfl ?_
                    refine wp_go rfl rfl ?_
                    refine e_get rfl rfl rfl rfl ?_
                    refine wp_go rfl rfl ?_
                    refine e_iadd rfl (by omega) ?_
                    refine e_put (fs' := [xR 56, xI (m : Int), xR 57, xI ((nc : Int) + 1), xI ((1 : Nat) : Int), xN, xR qa, xI (tK B n i), xR 51, xI (j : Int), xI 2, xI 1, xI 1, xI ((tP B n j : Nat) : Int)]) rfl rfl rfl rfl ?_
                    refine wp_ret rfl rfl ?_
                    dsimp only at hr
                    rw [if_neg z52] at hr
                    exact kf _ _ hr.symm _ ⟨m, nc + 1, 1, _, _, _, wx, _, rfl, Q8, G57, by decide⟩ (FA.le (c2 := 1) (s2 := 300) (FA.tr (l := [55, 56, 57]) (FA.tr (l := [55, 56, 57]) (Fr.fa (((Fr.rf (l := [55, 56, 57])).wr rfl |>.wr rfl).wr rfl)) QF (fun _ z => z) (nin_sub rfl)) (Fr.fa (((Fr.rf (l := [55, 56, 57])).wr rfl).wr rfl)) (fun _ z => z) (fun _ z => z)) (by omega) (by omega) (fun _ z => z))
                · skip
                  subst e
                  have G57 := QF.2.2.2 57 (by show 57 < h.1; omega) rfl
                  refine wp_go rfl rfl ?_
                  refine wp_go rfl rfl ?_
                  refine wp_go rfl rfl ?_
                  refine wp_cv rfl rfl rfl Q3 rfl rfl rfl ?_
                  refine c_expS Q3 Q2 (by decide) ?_
                  refine wp_go rfl rfl ?_
                  refine wp_go rfl rfl ?_
                  refine e_get rfl Q3 rfl rfl ?_
                  refine wp_go rfl rfl ?_
                  refine e_iadd rfl (by omega) ?_
                  refine e_put (fs' := [xR 56, xI (wc2 : Int), xR 57, xI ((nc : Int) + 1), xI ((1 : Nat) : Int), tl2, rb2, xI (tK B n i), xR 51, xI (k : Int), xI 2, xI 1, xI fl, xI ((tP B n k : Nat) : Int)]) rfl Q3 rfl rfl ?_
                  refine wp_ret rfl rfl ?_
                  exact kf _ _ hr.symm _ ⟨wc2, nc + 1, 1, _, _, _, wx, _, rfl, Q4, G57, Q2⟩ (FA.le (c2 := 1) (s2 := 300) (FA.tr (l := [55, 56, 57]) (FA.tr (l := [55, 56, 57]) (Fr.fa (((Fr.rf (l := [55, 56, 57])).wr rfl |>.wr rfl).wr rfl)) QF (fun _ z => z) (nin_sub rfl)) (Fr.fa ((Fr.rf (l := [55, 56, 57])).wr rfl)) (fun _ z => z) (fun _ z => z)) (by omega) (by omega) (fun _ z => z))
          · skip
            have h4 : ¬ ((tK B n i = 10 ∧ ft.isSome = true) ∨ (tK B n i = 11 ∧ fr.isSome = true)) := by
              rw [EOK_is ET, EOK_is ER]
              simp <;> omega
            refine wp_go rfl rfl ?_
            refine wp_go rfl rfl ?_
            refine wp_cv rfl rfl rfl H55 rfl rfl rfl ?_
            refine c_refL H hn HT H55 ?_
            refine wp_go rfl rfl ?_
            refine wp_ret rfl rfl ?_
            rw [sCl, if_neg (fun z => z q8), if_neg h4, if_pos (show 24 ≤ nc by omega)] at hr
            exact kf _ _ hr.symm _ ⟨wc, nc, co, _, _, _, wd, rw_, rfl, H56, H57, by decide⟩ (FA.le (Fr.fa ((Fr.rf (l := [55, 56, 57])).wr rfl)) (by omega) (by omega) (fun _ z => z))
      · skip
        refine wp_go rfl rfl ?_
        refine e_get rfl H55 rfl rfl ?_
        refine wp_go rfl rfl ?_
        refine wp_go rfl rfl ?_
        refine e_get rfl H55 rfl rfl ?_
        refine wp_go rfl rfl ?_
        refine e_cne rfl (fun c44 => ?_) (fun c44 => ?_)
        · skip
          refine wp_go rfl rfl ?_
          refine e_get rfl H55 rfl rfl ?_
          refine wp_go rfl rfl ?_
          refine e_clt rfl (fun c68 => ?_) (fun c68 => ?_)
          · skip
            have h4 : ¬ ((tK B n i = 10 ∧ ft.isSome = true) ∨ (tK B n i = 11 ∧ fr.isSome = true)) := by
              rw [EOK_is ET, EOK_is ER]
              simp <;> omega
            rw [sCl, if_neg (fun z => z q8), if_neg h4, if_neg (show ¬ 24 ≤ nc by omega)] at hr
            refine wp_go rfl rfl ?_
            refine wp_go rfl rfl ?_
            refine e_put (fs' := [xR 56, xI (wc : Int), xR 57, xI (nc : Int), xI 0, xN, xN, xI lw, xR 51, xI (i : Int), xI (tK B n i), xI 1, xI 0, xI (-1)]) rfl H55 rfl rfl ?_
            refine wp_go rfl rfl ?_
            refine wp_go rfl rfl ?_
            refine e_get rfl rfl rfl rfl ?_
            refine wp_cv rfl rfl rfl rfl rfl rfl rfl ?_
            refine c_put (cl := nc) (co := 0) rfl H57 (by omega) (fun _ _ => ?_) (fun z => absurd (show 5 * nc + 0 < 120 ∧ 0 < 5 by omega) z)
            have hlt := tK_lt H hn (show tK B n i ≠ 0 by omega)
            refine wp_go rfl rfl ?_
            refine e_get rfl rfl rfl rfl ?_
            refine wp_go rfl rfl ?_
            refine e_ceq rfl (fun c99 => ?_) (fun c99 => ?_)
            · skip
              refine wp_go rfl rfl ?_
              refine wp_cv rfl rfl rfl rfl rfl rfl rfl ?_
              have hkl : tK B n i = 10 ∨ tK B n i = 11 := by omega
              obtain ⟨q, hq, hqr⟩ := sP_tot (K := tK B n) (N := tN B n) (law := tK B n i) (fun a ha => tK_big H hn ha) 4000 2 0 v (i + 1) (by decide) (by omega) (by have : rnk 2 = 4 := rfl; omega)
              rw [if_pos (show tK B n i ≤ 11 by omega), hq] at hr
              refine c_law (d := d) H hn hkl hq (by exact h91) (HT.fr (((Fr.rf (l := [55, 56, 57])).wr rfl |>.wr rfl).wr rfl) rfl) rfl H56 (fun j V e h2 qa m wq wx Q1 QA Q2 Q3 Q4 Q5 Q6 Q7 Q8 QF => ?_) (fun fl k e h2 wc2 wx tl2 rb2 Q1 Q2 Q3 Q4 QF => ?_)
              · skip
                subst e
                have G55 := Q6 (by omega)
                have G57 := QF.2.2.2 57 (by show 57 < h.1; omega) rfl
                have GT := TOKH.fa (HT.fr (((Fr.rf (l := [55, 56, 57])).wr rfl |>.wr rfl).wr rfl) rfl) QF h91 rfl
                refine wp_go rfl rfl ?_
                refine wp_go rfl rfl ?_
                refine wp_go rfl rfl ?_
                refine wp_cv rfl rfl rfl G55 rfl rfl rfl ?_
                refine c_expL H hn GT (by omega) G55 (fun z52 => ?_) (fun z52 => ?_)
                · skip
                  refine wp_go rfl rfl ?_
                  refine wp_go rfl rfl ?_
                  refine e_get rfl rfl rfl rfl ?_
                  refine wp_go rfl rfl ?_
                  refine e_iadd rfl (by omega) ?_
                  refine e_put (fs' := [xR 56, xI (m : Int), xR 57, xI ((nc : Int) + 1), xI ((1 : Nat) : Int), xR qa, xN, xI (tK B n i), xR 51, xI ((j + 1 : Nat) : Int), xI (tK B n (j + 1)), xI 1, xI 0, xI (-1)]) rfl rfl rfl rfl ?_
                  refine wp_ret rfl rfl ?_
                  dsimp only at hr
                  rw [if_pos z52, if_pos (show tK B n i = 10 by omega), if_neg (show ¬ tK B n i = 11 by omega)] at hr
                  have hl2 := tK_lt H hn (show tK B n j ≠ 0 by rw [z52]; decide)
                  have Q1q : qa = h.1 := Q1
                  have hqa : qa < h2.1 := QA
                  refine kok _ _ _ hr.symm _ m 1 (some qa) none _ wx (hc_u rw_ (5 * nc + 0) (tK B n i)) rfl Q8 G57 (by omega) (by omega) ?_ ?_ ?_ ?_ ⟨hu_s, fun z => absurd z (by omega), fun z => absurd z (by omega), fun z => absurd z (by omega)⟩ (fun t ht => hu_n (by omega)) (FA.le (c2 := 1) (s2 := 300) (FA.tr (l := [55, 56, 57]) (FA.tr (l := [55, 56, 57]) (Fr.fa (((Fr.rf (l := [55, 56, 57])).wr rfl |>.wr rfl).wr rfl)) QF (fun _ z => z) (nin_sub rfl)) (Fr.fa (((Fr.rf (l := [55, 56, 57])).wr rfl).wr rfl)) (fun _ z => z) (fun _ z => z)) (by omega) (by omega) (fun _ z => z))
                  · exact ⟨by omega, m, wq, (hw_ne (by omega) (hw_ne (by omega) Q2)), Q3, fun nm hnm => by have := Q4 nm hnm; rw [show tK B n i = 10 by omega] at this; exact this⟩
                  · exact ER.fa (FA.le (c2 := 1) (s2 := 300) (FA.tr (l := [55, 56, 57]) (FA.tr (l := [55, 56, 57]) (Fr.fa (((Fr.rf (l := [55, 56, 57])).wr rfl |>.wr rfl).wr rfl)) QF (fun _ z => z) (nin_sub rfl)) (Fr.fa (((Fr.rf (l := [55, 56, 57])).wr rfl).wr rfl)) (fun _ z => z) (fun _ z => z)) (by omega) (by omega) (fun _ z => z)) (by decide) LR1
                  · exact fun a e => by cases e; exact hqa
                  · exact LR1.le QF.1
                · skip
                  refine wp_go rfl rfl ?_
                  refine wp_go rfl rfl ?_
                  refine e_get rfl rfl rfl rfl ?_
                  refine wp_go rfl rfl ?_
                  refine e_iadd rfl (by omega) ?_
                  refine e_put (fs' := [xR 56, xI (m : Int), xR 57, xI ((nc : Int) + 1), xI ((1 : Nat) : Int), xR qa, xN, xI (tK B n i), xR 51, xI (j : Int), xI 2, xI 1, xI 1, xI ((tP B n j : Nat) : Int)]) rfl rfl rfl rfl ?_
                  refine wp_ret rfl rfl ?_
                  dsimp only at hr
                  rw [if_neg z52] at hr
                  exact kf _ _ hr.symm _ ⟨m, nc + 1, 1, _, _, _, wx, _, rfl, Q8, G57, by decide⟩ (FA.le (c2 := 1) (s2 := 300) (FA.tr (l := [55, 56, 57]) (FA.tr (l := [55, 56, 57]) (Fr.fa (((Fr.rf (l := [55, 56, 57])).wr rfl |>.wr rfl).wr rfl)) QF (fun _ z => z) (nin_sub rfl)) (Fr.fa (((Fr.rf (l := [55, 56, 57])).wr rfl).wr rfl)) (fun _ z => z) (fun _ z => z)) (by omega) (by omega) (fun _ z => z))
              · skip
                subst e
                have G57 := QF.2.2.2 57 (by show 57 < h.1; omega) rfl
                refine wp_go rfl rfl ?_
                refine wp_go rfl rfl ?_
                refine wp_go rfl rfl ?_
                refine wp_cv rfl rfl rfl Q3 rfl rfl rfl ?_
                refine c_expS Q3 Q2 (by decide) ?_
                refine wp_go rfl rfl ?_
                refine wp_go rfl rfl ?_
                refine e_get rfl Q3 rfl rfl ?_
                refine wp_go rfl rfl ?_
                refine e_iadd rfl (by omega) ?_
                refine e_put (fs' := [xR 56, xI (wc2 : Int), xR 57, xI ((nc : Int) + 1), xI ((1 : Nat) : Int), tl2, rb2, xI (tK B n i), xR 51, xI (k : Int), xI 2, xI 1, xI fl, xI ((tP B n k : Nat) : Int)]) rfl Q3 rfl rfl ?_
                refine wp_ret rfl rfl ?_
                exact kf _ _ hr.symm _ ⟨wc2, nc + 1, 1, _, _, _, wx, _, rfl, Q4, G57, Q2⟩ (FA.le (c2 := 1) (s2 := 300) (FA.tr (l := [55, 56, 57]) (FA.tr (l := [55, 56, 57]) (Fr.fa (((Fr.rf (l := [55, 56, 57])).wr rfl |>.wr rfl).wr rfl)) QF (fun _ z => z) (nin_sub rfl)) (Fr.fa ((Fr.rf (l := [55, 56, 57])).wr rfl)) (fun _ z => z) (fun _ z => z)) (by omega) (by omega) (fun _ z => z))
            · skip
              refine wp_go rfl rfl ?_
              refine e_get rfl rfl rfl rfl ?_
              refine wp_go rfl rfl ?_
              refine e_cne rfl (fun c108 => ?_) (fun c108 => ?_)
              · skip
                refine wp_go rfl rfl ?_
                refine wp_cv rfl rfl rfl rfl rfl rfl rfl ?_
                rw [if_neg (show ¬ tK B n i ≤ 11 by omega)] at hr
                obtain ⟨q, hq⟩ : ∃ z, sDe (tK B n) (tN B n) i = z := ⟨_, rfl⟩
                rw [hq] at hr
                refine c_deed (d := d + 85) H hn (by omega) hq (by omega) (HT.fr (((Fr.rf (l := [55, 56, 57])).wr rfl |>.wr rfl).wr rfl) rfl) rfl rfl (fun e h2 co2 rw2 Q1 Q2 Q3 Q4 Q5 Q6 Q7 Q8 QF => ?_) (fun fl k e h2 R QF => ?_)
                · skip
                  subst e
                  refine wp_go rfl rfl ?_
                  refine wp_go rfl rfl ?_
                  refine wp_cv rfl rfl rfl Q1 rfl rfl rfl ?_
                  refine c_expL H hn ((HT.fr (((Fr.rf (l := [55, 56, 57])).wr rfl |>.wr rfl).wr rfl) rfl).fr QF rfl) (by omega) Q1 (fun z52 => ?_) (fun z52 => ?_)
                  · skip
                    refine wp_go rfl rfl ?_
                    refine wp_go rfl rfl ?_
                    refine e_get rfl rfl rfl rfl ?_
                    refine wp_go rfl rfl ?_
                    refine e_iadd rfl (by omega) ?_
                    refine e_put (fs' := [xR 56, xI (wc : Int), xR 57, xI ((nc : Int) + 1), xI (co2 : Int), xN, xN, xI lw, xR 51, xI ((i + dln (tK B n i) + 1 : Nat) : Int), xI (tK B n (i + dln (tK B n i) + 1)), xI 1, xI 0, xI (-1)]) rfl rfl rfl rfl ?_
                    refine wp_ret rfl rfl ?_
                    dsimp only at hr
                    rw [if_pos z52] at hr
                    have hl2 := tK_lt H hn (show tK B n (i + dln (tK B n i)) ≠ 0 by rw [z52]; decide)
                    have hh1 : h2.1 = h.1 := QF.1
                    refine kok _ _ _ hr.symm _ wc co2 none none _ wd rw2 rfl ((QF.2.2 56 rfl).trans H56) Q3 (by omega) (by omega) ?_ ?_ ?_ ?_ ⟨(Q8 _ (by omega)).trans hu_s, Q4, fun _ z => Q5 z, fun z => ⟨Q6 (by omega), Q7 (by omega)⟩⟩ (fun t ht => (Q8 t (by omega)).trans (hu_n (by omega))) (FA.le (c2 := 1) (s2 := 300) (FA.tr (l := [55, 56, 57]) (FA.tr (l := [55, 56, 57]) (Fr.fa (((Fr.rf (l := [55, 56, 57])).wr rfl |>.wr rfl).wr rfl)) QF.fa (fun _ z => z) (nin_sub rfl)) (Fr.fa (((Fr.rf (l := [55, 56, 57])).wr rfl).wr rfl)) (fun _ z => z) (fun _ z => z)) (by omega) (by omega) (fun _ z => z))
                    · exact ET.fa (FA.le (c2 := 1) (s2 := 300) (FA.tr (l := [55, 56, 57]) (FA.tr (l := [55, 56, 57]) (Fr.fa (((Fr.rf (l := [55, 56, 57])).wr rfl |>.wr rfl).wr rfl)) QF.fa (fun _ z => z) (nin_sub rfl)) (Fr.fa (((Fr.rf (l := [55, 56, 57])).wr rfl).wr rfl)) (fun _ z => z) (fun _ z => z)) (by omega) (by omega) (fun _ z => z)) (by decide) LT1
                    · exact ER.fa (FA.le (c2 := 1) (s2 := 300) (FA.tr (l := [55, 56, 57]) (FA.tr (l := [55, 56, 57]) (Fr.fa (((Fr.rf (l := [55, 56, 57])).wr rfl |>.wr rfl).wr rfl)) QF.fa (fun _ z => z) (nin_sub rfl)) (Fr.fa (((Fr.rf (l := [55, 56, 57])).wr rfl).wr rfl)) (fun _ z => z) (fun _ z => z)) (by omega) (by omega) (fun _ z => z)) (by decide) LR1
                    · exact LT1.le (Nat.le_of_eq hh1.symm)
                    · exact LR1.le (Nat.le_of_eq hh1.symm)
                  · skip
                    refine wp_go rfl rfl ?_
                    refine wp_go rfl rfl ?_
                    refine e_get rfl rfl rfl rfl ?_
                    refine wp_go rfl rfl ?_
                    refine e_iadd rfl (by omega) ?_
                    refine e_put (fs' := [xR 56, xI (wc : Int), xR 57, xI ((nc : Int) + 1), xI (co2 : Int), xN, xN, xI lw, xR 51, xI ((i + dln (tK B n i) : Nat) : Int), xI 2, xI 1, xI 1, xI ((tP B n (i + dln (tK B n i)) : Nat) : Int)]) rfl rfl rfl rfl ?_
                    refine wp_ret rfl rfl ?_
                    dsimp only at hr
                    rw [if_neg z52] at hr
                    exact kf _ _ hr.symm _ ⟨wc, nc + 1, co2, _, _, _, wd, rw2, rfl, (QF.2.2 56 rfl).trans H56, Q3, by decide⟩ (FA.le (c2 := 1) (s2 := 300) (FA.tr (l := [55, 56, 57]) (FA.tr (l := [55, 56, 57]) (Fr.fa (((Fr.rf (l := [55, 56, 57])).wr rfl |>.wr rfl).wr rfl)) QF.fa (fun _ z => z) (nin_sub rfl)) (Fr.fa (((Fr.rf (l := [55, 56, 57])).wr rfl).wr rfl)) (fun _ z => z) (fun _ z => z)) (by omega) (by omega) (fun _ z => z))
                · skip
                  subst e
                  obtain ⟨co2, rq, hw2, G55, G57, hf2⟩ := id R
                  refine wp_go rfl rfl ?_
                  refine wp_go rfl rfl ?_
                  refine wp_cv rfl rfl rfl G55 rfl rfl rfl ?_
                  refine c_expS G55 hf2 (by decide) ?_
                  refine wp_go rfl rfl ?_
                  refine wp_go rfl rfl ?_
                  refine e_get rfl G55 rfl rfl ?_
                  refine wp_go rfl rfl ?_
                  refine e_iadd rfl (by omega) ?_
                  refine e_put (fs' := [xR 56, xI (wc : Int), xR 57, xI ((nc : Int) + 1), xI (co2 : Int), xN, xN, xI lw, xR 51, xI (k : Int), xI 2, xI 1, xI fl, xI ((tP B n k : Nat) : Int)]) rfl G55 rfl rfl ?_
                  refine wp_ret rfl rfl ?_
                  exact kf _ _ hr.symm _ ⟨wc, nc + 1, co2, _, _, _, wd, rq, rfl, (QF.2.2 56 rfl).trans H56, G57, hf2⟩ (FA.le (c2 := 1) (s2 := 300) (FA.tr (l := [55, 56, 57]) (FA.tr (l := [55, 56, 57]) (Fr.fa (((Fr.rf (l := [55, 56, 57])).wr rfl |>.wr rfl).wr rfl)) QF.fa (fun _ z => z) (nin_sub rfl)) (Fr.fa ((Fr.rf (l := [55, 56, 57])).wr rfl)) (fun _ z => z) (fun _ z => z)) (by omega) (by omega) (fun _ z => z))
              · skip
                refine wp_go rfl rfl ?_
                refine wp_cv rfl rfl rfl rfl rfl rfl rfl ?_
                have hkl : tK B n i = 10 ∨ tK B n i = 11 := by omega
                obtain ⟨q, hq, hqr⟩ := sP_tot (K := tK B n) (N := tN B n) (law := tK B n i) (fun a ha => tK_big H hn ha) 4000 2 0 v (i + 1) (by decide) (by omega) (by have : rnk 2 = 4 := rfl; omega)
                rw [if_pos (show tK B n i ≤ 11 by omega), hq] at hr
                refine c_law (d := d) H hn hkl hq (by exact h91) (HT.fr (((Fr.rf (l := [55, 56, 57])).wr rfl |>.wr rfl).wr rfl) rfl) rfl H56 (fun j V e h2 qa m wq wx Q1 QA Q2 Q3 Q4 Q5 Q6 Q7 Q8 QF => ?_) (fun fl k e h2 wc2 wx tl2 rb2 Q1 Q2 Q3 Q4 QF => ?_)
                · skip
                  subst e
                  have G55 := Q7 (by omega)
                  have G57 := QF.2.2.2 57 (by show 57 < h.1; omega) rfl
                  have GT := TOKH.fa (HT.fr (((Fr.rf (l := [55, 56, 57])).wr rfl |>.wr rfl).wr rfl) rfl) QF h91 rfl
                  refine wp_go rfl rfl ?_
                  refine wp_go rfl rfl ?_
                  refine wp_go rfl rfl ?_
                  refine wp_cv rfl rfl rfl G55 rfl rfl rfl ?_
                  refine c_expL H hn GT (by omega) G55 (fun z52 => ?_) (fun z52 => ?_)
                  · skip
                    refine wp_go rfl rfl ?_
                    refine wp_go rfl rfl ?_
                    refine e_get rfl rfl rfl rfl ?_
                    refine wp_go rfl rfl ?_
                    refine e_iadd rfl (by omega) ?_
                    refine e_put (fs' := [xR 56, xI (m : Int), xR 57, xI ((nc : Int) + 1), xI ((1 : Nat) : Int), xN, xR qa, xI (tK B n i), xR 51, xI ((j + 1 : Nat) : Int), xI (tK B n (j + 1)), xI 1, xI 0, xI (-1)]) rfl rfl rfl rfl ?_
                    refine wp_ret rfl rfl ?_
                    dsimp only at hr
                    rw [if_pos z52, if_neg (show ¬ tK B n i = 10 by omega), if_pos (show tK B n i = 11 by omega)] at hr
                    have hl2 := tK_lt H hn (show tK B n j ≠ 0 by rw [z52]; decide)
                    have Q1q : qa = h.1 := Q1
                    have hqa : qa < h2.1 := QA
                    refine kok _ _ _ hr.symm _ m 1 none (some qa) _ wx (hc_u rw_ (5 * nc + 0) (tK B n i)) rfl Q8 G57 (by omega) (by omega) ?_ ?_ ?_ ?_ ⟨hu_s, fun z => absurd z (by omega), fun z => absurd z (by omega), fun z => absurd z (by omega)⟩ (fun t ht => hu_n (by omega)) (FA.le (c2 := 1) (s2 := 300) (FA.tr (l := [55, 56, 57]) (FA.tr (l := [55, 56, 57]) (Fr.fa (((Fr.rf (l := [55, 56, 57])).wr rfl |>.wr rfl).wr rfl)) QF (fun _ z => z) (nin_sub rfl)) (Fr.fa (((Fr.rf (l := [55, 56, 57])).wr rfl).wr rfl)) (fun _ z => z) (fun _ z => z)) (by omega) (by omega) (fun _ z => z))
                    · exact ET.fa (FA.le (c2 := 1) (s2 := 300) (FA.tr (l := [55, 56, 57]) (FA.tr (l := [55, 56, 57]) (Fr.fa (((Fr.rf (l := [55, 56, 57])).wr rfl |>.wr rfl).wr rfl)) QF (fun _ z => z) (nin_sub rfl)) (Fr.fa (((Fr.rf (l := [55, 56, 57])).wr rfl).wr rfl)) (fun _ z => z) (fun _ z => z)) (by omega) (by omega) (fun _ z => z)) (by decide) LT1
                    · exact ⟨by omega, m, wq, (hw_ne (by omega) (hw_ne (by omega) Q2)), Q3, fun nm hnm => by have := Q4 nm hnm; rw [show tK B n i = 11 by omega] at this; exact this⟩
                    · exact LT1.le QF.1
                    · exact fun a e => by cases e; exact hqa
                  · skip
                    refine wp_go rfl rfl ?_
                    refine wp_go rfl rfl ?_
                    refine e_get rfl rfl rfl rfl ?_
                    refine wp_go rfl rfl ?_
                    refine e_iadd rfl (by omega) ?_
                    refine e_put (fs' := [xR 56, xI (m : Int), xR 57, xI ((nc : Int) + 1), xI ((1 : Nat) : Int), xN, xR qa, xI (tK B n i), xR 51, xI (j : Int), xI 2, xI 1, xI 1, xI ((tP B n j : Nat) : Int)]) rfl rfl rfl rfl ?_
                    refine wp_ret rfl rfl ?_
                    dsimp only at hr
                    rw [if_neg z52] at hr
                    exact kf _ _ hr.symm _ ⟨m, nc + 1, 1, _, _, _, wx, _, rfl, Q8, G57, by decide⟩ (FA.le (c2 := 1) (s2 := 300) (FA.tr (l := [55, 56, 57]) (FA.tr (l := [55, 56, 57]) (Fr.fa (((Fr.rf (l := [55, 56, 57])).wr rfl |>.wr rfl).wr rfl)) QF (fun _ z => z) (nin_sub rfl)) (Fr.fa (((Fr.rf (l := [55, 56, 57])).wr rfl).wr rfl)) (fun _ z => z) (fun _ z => z)) (by omega) (by omega) (fun _ z => z))
                · skip
                  subst e
                  have G57 := QF.2.2.2 57 (by show 57 < h.1; omega) rfl
                  refine wp_go rfl rfl ?_
                  refine wp_go rfl rfl ?_
                  refine wp_go rfl rfl ?_
                  refine wp_cv rfl rfl rfl Q3 rfl rfl rfl ?_
                  refine c_expS Q3 Q2 (by decide) ?_
                  refine wp_go rfl rfl ?_
                  refine wp_go rfl rfl ?_
                  refine e_get rfl Q3 rfl rfl ?_
                  refine wp_go rfl rfl ?_
                  refine e_iadd rfl (by omega) ?_
                  refine e_put (fs' := [xR 56, xI (wc2 : Int), xR 57, xI ((nc : Int) + 1), xI ((1 : Nat) : Int), tl2, rb2, xI (tK B n i), xR 51, xI (k : Int), xI 2, xI 1, xI fl, xI ((tP B n k : Nat) : Int)]) rfl Q3 rfl rfl ?_
                  refine wp_ret rfl rfl ?_
                  exact kf _ _ hr.symm _ ⟨wc2, nc + 1, 1, _, _, _, wx, _, rfl, Q4, G57, Q2⟩ (FA.le (c2 := 1) (s2 := 300) (FA.tr (l := [55, 56, 57]) (FA.tr (l := [55, 56, 57]) (Fr.fa (((Fr.rf (l := [55, 56, 57])).wr rfl |>.wr rfl).wr rfl)) QF (fun _ z => z) (nin_sub rfl)) (Fr.fa ((Fr.rf (l := [55, 56, 57])).wr rfl)) (fun _ z => z) (fun _ z => z)) (by omega) (by omega) (fun _ z => z))
          · skip
            have h4 : ¬ ((tK B n i = 10 ∧ ft.isSome = true) ∨ (tK B n i = 11 ∧ fr.isSome = true)) := by
              rw [EOK_is ET, EOK_is ER]
              simp <;> omega
            refine wp_go rfl rfl ?_
            refine wp_go rfl rfl ?_
            refine wp_cv rfl rfl rfl H55 rfl rfl rfl ?_
            refine c_refL H hn HT H55 ?_
            refine wp_go rfl rfl ?_
            refine wp_ret rfl rfl ?_
            rw [sCl, if_neg (fun z => z q8), if_neg h4, if_pos (show 24 ≤ nc by omega)] at hr
            exact kf _ _ hr.symm _ ⟨wc, nc, co, _, _, _, wd, rw_, rfl, H56, H57, by decide⟩ (FA.le (Fr.fa ((Fr.rf (l := [55, 56, 57])).wr rfl)) (by omega) (by omega) (fun _ z => z))
        · skip
          refine wp_go rfl rfl ?_
          refine e_get rfl H55 rfl rfl ?_
          refine wp_go rfl rfl ?_
          refine wp_go rfl rfl ?_
          refine e_get rfl H55 rfl rfl ?_
          refine wp_go rfl rfl ?_
          refine e_clt rfl (fun c68 => ?_) (fun c68 => ?_)
          · skip
            have h4 : ¬ ((tK B n i = 10 ∧ ft.isSome = true) ∨ (tK B n i = 11 ∧ fr.isSome = true)) := by
              rw [EOK_is ET, EOK_is ER]
              simp <;> omega
            rw [sCl, if_neg (fun z => z q8), if_neg h4, if_neg (show ¬ 24 ≤ nc by omega)] at hr
            refine wp_go rfl rfl ?_
            refine wp_go rfl rfl ?_
            refine e_put (fs' := [xR 56, xI (wc : Int), xR 57, xI (nc : Int), xI 0, xN, xN, xI lw, xR 51, xI (i : Int), xI (tK B n i), xI 1, xI 0, xI (-1)]) rfl H55 rfl rfl ?_
            refine wp_go rfl rfl ?_
            refine wp_go rfl rfl ?_
            refine e_get rfl rfl rfl rfl ?_
            refine wp_cv rfl rfl rfl rfl rfl rfl rfl ?_
            refine c_put (cl := nc) (co := 0) rfl H57 (by omega) (fun _ _ => ?_) (fun z => absurd (show 5 * nc + 0 < 120 ∧ 0 < 5 by omega) z)
            have hlt := tK_lt H hn (show tK B n i ≠ 0 by omega)
            refine wp_go rfl rfl ?_
            refine e_get rfl rfl rfl rfl ?_
            refine wp_go rfl rfl ?_
            refine e_ceq rfl (fun c99 => ?_) (fun c99 => ?_)
            · skip
              refine wp_go rfl rfl ?_
              refine wp_cv rfl rfl rfl rfl rfl rfl rfl ?_
              have hkl : tK B n i = 10 ∨ tK B n i = 11 := by omega
              obtain ⟨q, hq, hqr⟩ := sP_tot (K := tK B n) (N := tN B n) (law := tK B n i) (fun a ha => tK_big H hn ha) 4000 2 0 v (i + 1) (by decide) (by omega) (by have : rnk 2 = 4 := rfl; omega)
              rw [if_pos (show tK B n i ≤ 11 by omega), hq] at hr
              refine c_law (d := d) H hn hkl hq (by exact h91) (HT.fr (((Fr.rf (l := [55, 56, 57])).wr rfl |>.wr rfl).wr rfl) rfl) rfl H56 (fun j V e h2 qa m wq wx Q1 QA Q2 Q3 Q4 Q5 Q6 Q7 Q8 QF => ?_) (fun fl k e h2 wc2 wx tl2 rb2 Q1 Q2 Q3 Q4 QF => ?_)
              · skip
                subst e
                have G55 := Q6 (by omega)
                have G57 := QF.2.2.2 57 (by show 57 < h.1; omega) rfl
                have GT := TOKH.fa (HT.fr (((Fr.rf (l := [55, 56, 57])).wr rfl |>.wr rfl).wr rfl) rfl) QF h91 rfl
                refine wp_go rfl rfl ?_
                refine wp_go rfl rfl ?_
                refine wp_go rfl rfl ?_
                refine wp_cv rfl rfl rfl G55 rfl rfl rfl ?_
                refine c_expL H hn GT (by omega) G55 (fun z52 => ?_) (fun z52 => ?_)
                · skip
                  refine wp_go rfl rfl ?_
                  refine wp_go rfl rfl ?_
                  refine e_get rfl rfl rfl rfl ?_
                  refine wp_go rfl rfl ?_
                  refine e_iadd rfl (by omega) ?_
                  refine e_put (fs' := [xR 56, xI (m : Int), xR 57, xI ((nc : Int) + 1), xI ((1 : Nat) : Int), xR qa, xN, xI (tK B n i), xR 51, xI ((j + 1 : Nat) : Int), xI (tK B n (j + 1)), xI 1, xI 0, xI (-1)]) rfl rfl rfl rfl ?_
                  refine wp_ret rfl rfl ?_
                  dsimp only at hr
                  rw [if_pos z52, if_pos (show tK B n i = 10 by omega), if_neg (show ¬ tK B n i = 11 by omega)] at hr
                  have hl2 := tK_lt H hn (show tK B n j ≠ 0 by rw [z52]; decide)
                  have Q1q : qa = h.1 := Q1
                  have hqa : qa < h2.1 := QA
                  refine kok _ _ _ hr.symm _ m 1 (some qa) none _ wx (hc_u rw_ (5 * nc + 0) (tK B n i)) rfl Q8 G57 (by omega) (by omega) ?_ ?_ ?_ ?_ ⟨hu_s, fun z => absurd z (by omega), fun z => absurd z (by omega), fun z => absurd z (by omega)⟩ (fun t ht => hu_n (by omega)) (FA.le (c2 := 1) (s2 := 300) (FA.tr (l := [55, 56, 57]) (FA.tr (l := [55, 56, 57]) (Fr.fa (((Fr.rf (l := [55, 56, 57])).wr rfl |>.wr rfl).wr rfl)) QF (fun _ z => z) (nin_sub rfl)) (Fr.fa (((Fr.rf (l := [55, 56, 57])).wr rfl).wr rfl)) (fun _ z => z) (fun _ z => z)) (by omega) (by omega) (fun _ z => z))
                  · exact ⟨by omega, m, wq, (hw_ne (by omega) (hw_ne (by omega) Q2)), Q3, fun nm hnm => by have := Q4 nm hnm; rw [show tK B n i = 10 by omega] at this; exact this⟩
                  · exact ER.fa (FA.le (c2 := 1) (s2 := 300) (FA.tr (l := [55, 56, 57]) (FA.tr (l := [55, 56, 57]) (Fr.fa (((Fr.rf (l := [55, 56, 57])).wr rfl |>.wr rfl).wr rfl)) QF (fun _ z => z) (nin_sub rfl)) (Fr.fa (((Fr.rf (l := [55, 56, 57])).wr rfl).wr rfl)) (fun _ z => z) (fun _ z => z)) (by omega) (by omega) (fun _ z => z)) (by decide) LR1
                  · exact fun a e => by cases e; exact hqa
                  · exact LR1.le QF.1
                · skip
                  refine wp_go rfl rfl ?_
                  refine wp_go rfl rfl ?_
                  refine e_get rfl rfl rfl rfl ?_
                  refine wp_go rfl rfl ?_
                  refine e_iadd rfl (by omega) ?_
                  refine e_put (fs' := [xR 56, xI (m : Int), xR 57, xI ((nc : Int) + 1), xI ((1 : Nat) : Int), xR qa, xN, xI (tK B n i), xR 51, xI (j : Int), xI 2, xI 1, xI 1, xI ((tP B n j : Nat) : Int)]) rfl rfl rfl rfl ?_
                  refine wp_ret rfl rfl ?_
                  dsimp only at hr
                  rw [if_neg z52] at hr
                  exact kf _ _ hr.symm _ ⟨m, nc + 1, 1, _, _, _, wx, _, rfl, Q8, G57, by decide⟩ (FA.le (c2 := 1) (s2 := 300) (FA.tr (l := [55, 56, 57]) (FA.tr (l := [55, 56, 57]) (Fr.fa (((Fr.rf (l := [55, 56, 57])).wr rfl |>.wr rfl).wr rfl)) QF (fun _ z => z) (nin_sub rfl)) (Fr.fa (((Fr.rf (l := [55, 56, 57])).wr rfl).wr rfl)) (fun _ z => z) (fun _ z => z)) (by omega) (by omega) (fun _ z => z))
              · skip
                subst e
                have G57 := QF.2.2.2 57 (by show 57 < h.1; omega) rfl
                refine wp_go rfl rfl ?_
                refine wp_go rfl rfl ?_
                refine wp_go rfl rfl ?_
                refine wp_cv rfl rfl rfl Q3 rfl rfl rfl ?_
                refine c_expS Q3 Q2 (by decide) ?_
                refine wp_go rfl rfl ?_
                refine wp_go rfl rfl ?_
                refine e_get rfl Q3 rfl rfl ?_
                refine wp_go rfl rfl ?_
                refine e_iadd rfl (by omega) ?_
                refine e_put (fs' := [xR 56, xI (wc2 : Int), xR 57, xI ((nc : Int) + 1), xI ((1 : Nat) : Int), tl2, rb2, xI (tK B n i), xR 51, xI (k : Int), xI 2, xI 1, xI fl, xI ((tP B n k : Nat) : Int)]) rfl Q3 rfl rfl ?_
                refine wp_ret rfl rfl ?_
                exact kf _ _ hr.symm _ ⟨wc2, nc + 1, 1, _, _, _, wx, _, rfl, Q4, G57, Q2⟩ (FA.le (c2 := 1) (s2 := 300) (FA.tr (l := [55, 56, 57]) (FA.tr (l := [55, 56, 57]) (Fr.fa (((Fr.rf (l := [55, 56, 57])).wr rfl |>.wr rfl).wr rfl)) QF (fun _ z => z) (nin_sub rfl)) (Fr.fa ((Fr.rf (l := [55, 56, 57])).wr rfl)) (fun _ z => z) (fun _ z => z)) (by omega) (by omega) (fun _ z => z))
            · skip
              refine wp_go rfl rfl ?_
              refine e_get rfl rfl rfl rfl ?_
              refine wp_go rfl rfl ?_
              refine e_cne rfl (fun c108 => ?_) (fun c108 => ?_)
              · skip
                refine wp_go rfl rfl ?_
                refine wp_cv rfl rfl rfl rfl rfl rfl rfl ?_
                rw [if_neg (show ¬ tK B n i ≤ 11 by omega)] at hr
                obtain ⟨q, hq⟩ : ∃ z, sDe (tK B n) (tN B n) i = z := ⟨_, rfl⟩
                rw [hq] at hr
                refine c_deed (d := d + 85) H hn (by omega) hq (by omega) (HT.fr (((Fr.rf (l := [55, 56, 57])).wr rfl |>.wr rfl).wr rfl) rfl) rfl rfl (fun e h2 co2 rw2 Q1 Q2 Q3 Q4 Q5 Q6 Q7 Q8 QF => ?_) (fun fl k e h2 R QF => ?_)
                · skip
                  subst e
                  refine wp_go rfl rfl ?_
                  refine wp_go rfl rfl ?_
                  refine wp_cv rfl rfl rfl Q1 rfl rfl rfl ?_
                  refine c_expL H hn ((HT.fr (((Fr.rf (l := [55, 56, 57])).wr rfl |>.wr rfl).wr rfl) rfl).fr QF rfl) (by omega) Q1 (fun z52 => ?_) (fun z52 => ?_)
                  · skip
                    refine wp_go rfl rfl ?_
                    refine wp_go rfl rfl ?_
                    refine e_get rfl rfl rfl rfl ?_
                    refine wp_go rfl rfl ?_
                    refine e_iadd rfl (by omega) ?_
                    refine e_put (fs' := [xR 56, xI (wc : Int), xR 57, xI ((nc : Int) + 1), xI (co2 : Int), xN, xN, xI lw, xR 51, xI ((i + dln (tK B n i) + 1 : Nat) : Int), xI (tK B n (i + dln (tK B n i) + 1)), xI 1, xI 0, xI (-1)]) rfl rfl rfl rfl ?_
                    refine wp_ret rfl rfl ?_
                    dsimp only at hr
                    rw [if_pos z52] at hr
                    have hl2 := tK_lt H hn (show tK B n (i + dln (tK B n i)) ≠ 0 by rw [z52]; decide)
                    have hh1 : h2.1 = h.1 := QF.1
                    refine kok _ _ _ hr.symm _ wc co2 none none _ wd rw2 rfl ((QF.2.2 56 rfl).trans H56) Q3 (by omega) (by omega) ?_ ?_ ?_ ?_ ⟨(Q8 _ (by omega)).trans hu_s, Q4, fun _ z => Q5 z, fun z => ⟨Q6 (by omega), Q7 (by omega)⟩⟩ (fun t ht => (Q8 t (by omega)).trans (hu_n (by omega))) (FA.le (c2 := 1) (s2 := 300) (FA.tr (l := [55, 56, 57]) (FA.tr (l := [55, 56, 57]) (Fr.fa (((Fr.rf (l := [55, 56, 57])).wr rfl |>.wr rfl).wr rfl)) QF.fa (fun _ z => z) (nin_sub rfl)) (Fr.fa (((Fr.rf (l := [55, 56, 57])).wr rfl).wr rfl)) (fun _ z => z) (fun _ z => z)) (by omega) (by omega) (fun _ z => z))
                    · exact ET.fa (FA.le (c2 := 1) (s2 := 300) (FA.tr (l := [55, 56, 57]) (FA.tr (l := [55, 56, 57]) (Fr.fa (((Fr.rf (l := [55, 56, 57])).wr rfl |>.wr rfl).wr rfl)) QF.fa (fun _ z => z) (nin_sub rfl)) (Fr.fa (((Fr.rf (l := [55, 56, 57])).wr rfl).wr rfl)) (fun _ z => z) (fun _ z => z)) (by omega) (by omega) (fun _ z => z)) (by decide) LT1
                    · exact ER.fa (FA.le (c2 := 1) (s2 := 300) (FA.tr (l := [55, 56, 57]) (FA.tr (l := [55, 56, 57]) (Fr.fa (((Fr.rf (l := [55, 56, 57])).wr rfl |>.wr rfl).wr rfl)) QF.fa (fun _ z => z) (nin_sub rfl)) (Fr.fa (((Fr.rf (l := [55, 56, 57])).wr rfl).wr rfl)) (fun _ z => z) (fun _ z => z)) (by omega) (by omega) (fun _ z => z)) (by decide) LR1
                    · exact LT1.le (Nat.le_of_eq hh1.symm)
                    · exact LR1.le (Nat.le_of_eq hh1.symm)
                  · skip
                    refine wp_go rfl rfl ?_
                    refine wp_go rfl rfl ?_
                    refine e_get rfl rfl rfl rfl ?_
                    refine wp_go rfl rfl ?_
                    refine e_iadd rfl (by omega) ?_
                    refine e_put (fs' := [xR 56, xI (wc : Int), xR 57, xI ((nc : Int) + 1), xI (co2 : Int), xN, xN, xI lw, xR 51, xI ((i + dln (tK B n i) : Nat) : Int), xI 2, xI 1, xI 1, xI ((tP B n (i + dln (tK B n i)) : Nat) : Int)]) rfl rfl rfl rfl ?_
                    refine wp_ret rfl rfl ?_
                    dsimp only at hr
                    rw [if_neg z52] at hr
                    exact kf _ _ hr.symm _ ⟨wc, nc + 1, co2, _, _, _, wd, rw2, rfl, (QF.2.2 56 rfl).trans H56, Q3, by decide⟩ (FA.le (c2 := 1) (s2 := 300) (FA.tr (l := [55, 56, 57]) (FA.tr (l := [55, 56, 57]) (Fr.fa (((Fr.rf (l := [55, 56, 57])).wr rfl |>.wr rfl).wr rfl)) QF.fa (fun _ z => z) (nin_sub rfl)) (Fr.fa (((Fr.rf (l := [55, 56, 57])).wr rfl).wr rfl)) (fun _ z => z) (fun _ z => z)) (by omega) (by omega) (fun _ z => z))
                · skip
                  subst e
                  obtain ⟨co2, rq, hw2, G55, G57, hf2⟩ := id R
                  refine wp_go rfl rfl ?_
                  refine wp_go rfl rfl ?_
                  refine wp_cv rfl rfl rfl G55 rfl rfl rfl ?_
                  refine c_expS G55 hf2 (by decide) ?_
                  refine wp_go rfl rfl ?_
                  refine wp_go rfl rfl ?_
                  refine e_get rfl G55 rfl rfl ?_
                  refine wp_go rfl rfl ?_
                  refine e_iadd rfl (by omega) ?_
                  refine e_put (fs' := [xR 56, xI (wc : Int), xR 57, xI ((nc : Int) + 1), xI (co2 : Int), xN, xN, xI lw, xR 51, xI (k : Int), xI 2, xI 1, xI fl, xI ((tP B n k : Nat) : Int)]) rfl G55 rfl rfl ?_
                  refine wp_ret rfl rfl ?_
                  exact kf _ _ hr.symm _ ⟨wc, nc + 1, co2, _, _, _, wd, rq, rfl, (QF.2.2 56 rfl).trans H56, G57, hf2⟩ (FA.le (c2 := 1) (s2 := 300) (FA.tr (l := [55, 56, 57]) (FA.tr (l := [55, 56, 57]) (Fr.fa (((Fr.rf (l := [55, 56, 57])).wr rfl |>.wr rfl).wr rfl)) QF.fa (fun _ z => z) (nin_sub rfl)) (Fr.fa ((Fr.rf (l := [55, 56, 57])).wr rfl)) (fun _ z => z) (fun _ z => z)) (by omega) (by omega) (fun _ z => z))
              · skip
                refine wp_go rfl rfl ?_
                refine wp_cv rfl rfl rfl rfl rfl rfl rfl ?_
                have hkl : tK B n i = 10 ∨ tK B n i = 11 := by omega
                obtain ⟨q, hq, hqr⟩ := sP_tot (K := tK B n) (N := tN B n) (law := tK B n i) (fun a ha => tK_big H hn ha) 4000 2 0 v (i + 1) (by decide) (by omega) (by have : rnk 2 = 4 := rfl; omega)
                rw [if_pos (show tK B n i ≤ 11 by omega), hq] at hr
                refine c_law (d := d) H hn hkl hq (by exact h91) (HT.fr (((Fr.rf (l := [55, 56, 57])).wr rfl |>.wr rfl).wr rfl) rfl) rfl H56 (fun j V e h2 qa m wq wx Q1 QA Q2 Q3 Q4 Q5 Q6 Q7 Q8 QF => ?_) (fun fl k e h2 wc2 wx tl2 rb2 Q1 Q2 Q3 Q4 QF => ?_)
                · skip
                  subst e
                  have G55 := Q7 (by omega)
                  have G57 := QF.2.2.2 57 (by show 57 < h.1; omega) rfl
                  have GT := TOKH.fa (HT.fr (((Fr.rf (l := [55, 56, 57])).wr rfl |>.wr rfl).wr rfl) rfl) QF h91 rfl
                  refine wp_go rfl rfl ?_
                  refine wp_go rfl rfl ?_
                  refine wp_go rfl rfl ?_
                  refine wp_cv rfl rfl rfl G55 rfl rfl rfl ?_
                  refine c_expL H hn GT (by omega) G55 (fun z52 => ?_) (fun z52 => ?_)
                  · skip
                    refine wp_go rfl rfl ?_
                    refine wp_go rfl rfl ?_
                    refine e_get rfl rfl rfl rfl ?_
                    refine wp_go rfl rfl ?_
                    refine e_iadd rfl (by omega) ?_
                    refine e_put (fs' := [xR 56, xI (m : Int), xR 57, xI ((nc : Int) + 1), xI ((1 : Nat) : Int), xN, xR qa, xI (tK B n i), xR 51, xI ((j + 1 : Nat) : Int), xI (tK B n (j + 1)), xI 1, xI 0, xI (-1)]) rfl rfl rfl rfl ?_
                    refine wp_ret rfl rfl ?_
                    dsimp only at hr
                    rw [if_pos z52, if_neg (show ¬ tK B n i = 10 by omega), if_pos (show tK B n i = 11 by omega)] at hr
                    have hl2 := tK_lt H hn (show tK B n j ≠ 0 by rw [z52]; decide)
                    have Q1q : qa = h.1 := Q1
                    have hqa : qa < h2.1 := QA
                    refine kok _ _ _ hr.symm _ m 1 none (some qa) _ wx (hc_u rw_ (5 * nc + 0) (tK B n i)) rfl Q8 G57 (by omega) (by omega) ?_ ?_ ?_ ?_ ⟨hu_s, fun z => absurd z (by omega), fun z => absurd z (by omega), fun z => absurd z (by omega)⟩ (fun t ht => hu_n (by omega)) (FA.le (c2 := 1) (s2 := 300) (FA.tr (l := [55, 56, 57]) (FA.tr (l := [55, 56, 57]) (Fr.fa (((Fr.rf (l := [55, 56, 57])).wr rfl |>.wr rfl).wr rfl)) QF (fun _ z => z) (nin_sub rfl)) (Fr.fa (((Fr.rf (l := [55, 56, 57])).wr rfl).wr rfl)) (fun _ z => z) (fun _ z => z)) (by omega) (by omega) (fun _ z => z))
                    · exact ET.fa (FA.le (c2 := 1) (s2 := 300) (FA.tr (l := [55, 56, 57]) (FA.tr (l := [55, 56, 57]) (Fr.fa (((Fr.rf (l := [55, 56, 57])).wr rfl |>.wr rfl).wr rfl)) QF (fun _ z => z) (nin_sub rfl)) (Fr.fa (((Fr.rf (l := [55, 56, 57])).wr rfl).wr rfl)) (fun _ z => z) (fun _ z => z)) (by omega) (by omega) (fun _ z => z)) (by decide) LT1
                    · exact ⟨by omega, m, wq, (hw_ne (by omega) (hw_ne (by omega) Q2)), Q3, fun nm hnm => by have := Q4 nm hnm; rw [show tK B n i = 11 by omega] at this; exact this⟩
                    · exact LT1.le QF.1
                    · exact fun a e => by cases e; exact hqa
                  · skip
                    refine wp_go rfl rfl ?_
                    refine wp_go rfl rfl ?_
                    refine e_get rfl rfl rfl rfl ?_
                    refine wp_go rfl rfl ?_
                    refine e_iadd rfl (by omega) ?_
                    refine e_put (fs' := [xR 56, xI (m : Int), xR 57, xI ((nc : Int) + 1), xI ((1 : Nat) : Int), xN, xR qa, xI (tK B n i), xR 51, xI (j : Int), xI 2, xI 1, xI 1, xI ((tP B n j : Nat) : Int)]) rfl rfl rfl rfl ?_
                    refine wp_ret rfl rfl ?_
                    dsimp only at hr
                    rw [if_neg z52] at hr
                    exact kf _ _ hr.symm _ ⟨m, nc + 1, 1, _, _, _, wx, _, rfl, Q8, G57, by decide⟩ (FA.le (c2 := 1) (s2 := 300) (FA.tr (l := [55, 56, 57]) (FA.tr (l := [55, 56, 57]) (Fr.fa (((Fr.rf (l := [55, 56, 57])).wr rfl |>.wr rfl).wr rfl)) QF (fun _ z => z) (nin_sub rfl)) (Fr.fa (((Fr.rf (l := [55, 56, 57])).wr rfl).wr rfl)) (fun _ z => z) (fun _ z => z)) (by omega) (by omega) (fun _ z => z))
                · skip
                  subst e
                  have G57 := QF.2.2.2 57 (by show 57 < h.1; omega) rfl
                  refine wp_go rfl rfl ?_
                  refine wp_go rfl rfl ?_
                  refine wp_go rfl rfl ?_
                  refine wp_cv rfl rfl rfl Q3 rfl rfl rfl ?_
                  refine c_expS Q3 Q2 (by decide) ?_
                  refine wp_go rfl rfl ?_
                  refine wp_go rfl rfl ?_
                  refine e_get rfl Q3 rfl rfl ?_
                  refine wp_go rfl rfl ?_
                  refine e_iadd rfl (by omega) ?_
                  refine e_put (fs' := [xR 56, xI (wc2 : Int), xR 57, xI ((nc : Int) + 1), xI ((1 : Nat) : Int), tl2, rb2, xI (tK B n i), xR 51, xI (k : Int), xI 2, xI 1, xI fl, xI ((tP B n k : Nat) : Int)]) rfl Q3 rfl rfl ?_
                  refine wp_ret rfl rfl ?_
                  exact kf _ _ hr.symm _ ⟨wc2, nc + 1, 1, _, _, _, wx, _, rfl, Q4, G57, Q2⟩ (FA.le (c2 := 1) (s2 := 300) (FA.tr (l := [55, 56, 57]) (FA.tr (l := [55, 56, 57]) (Fr.fa (((Fr.rf (l := [55, 56, 57])).wr rfl |>.wr rfl).wr rfl)) QF (fun _ z => z) (nin_sub rfl)) (Fr.fa ((Fr.rf (l := [55, 56, 57])).wr rfl)) (fun _ z => z) (fun _ z => z)) (by omega) (by omega) (fun _ z => z))
          · skip
            have h4 : ¬ ((tK B n i = 10 ∧ ft.isSome = true) ∨ (tK B n i = 11 ∧ fr.isSome = true)) := by
              rw [EOK_is ET, EOK_is ER]
              simp <;> omega
            refine wp_go rfl rfl ?_
            refine wp_go rfl rfl ?_
            refine wp_cv rfl rfl rfl H55 rfl rfl rfl ?_
            refine c_refL H hn HT H55 ?_
            refine wp_go rfl rfl ?_
            refine wp_ret rfl rfl ?_
            rw [sCl, if_neg (fun z => z q8), if_neg h4, if_pos (show 24 ≤ nc by omega)] at hr
            exact kf _ _ hr.symm _ ⟨wc, nc, co, _, _, _, wd, rw_, rfl, H56, H57, by decide⟩ (FA.le (Fr.fa ((Fr.rf (l := [55, 56, 57])).wr rfl)) (by omega) (by omega) (fun _ z => z))
    · skip
      refine wp_go rfl rfl ?_
      refine wp_go rfl rfl ?_
      refine wp_go rfl rfl ?_
      refine wp_cv rfl rfl rfl H55 rfl rfl rfl ?_
      refine c_refL H hn HT H55 ?_
      refine wp_go rfl rfl ?_
      refine wp_ret rfl rfl ?_
      rw [sCl, if_pos q8] at hr
      exact kf _ _ hr.symm _ ⟨wc, nc, co, _, _, _, wd, rw_, rfl, H56, H57, by decide⟩ (FA.le (Fr.fa ((Fr.rf (l := [55, 56, 57])).wr rfl)) (by omega) (by omega) (fun _ z => z))
  | none, ET, LT1, some q2, ER, LR1, H55 =>
    refine wp_go rfl rfl ?_
    refine e_get rfl H55 rfl rfl ?_
    refine wp_go rfl rfl ?_
    refine wp_go rfl rfl ?_
    refine wp_call rfl rfl rfl rfl ?_
    refine c_isWithin  (fun q8 => ?_) (fun q8 => ?_)
    · skip
      refine wp_go rfl rfl ?_
      refine wp_go rfl rfl ?_
      refine e_get rfl H55 rfl rfl ?_
      refine wp_go rfl rfl ?_
      refine e_cne rfl (fun c28 => ?_) (fun c28 => ?_)
      · skip
        refine wp_go rfl rfl ?_
        refine e_get rfl H55 rfl rfl ?_
        refine wp_go rfl rfl ?_
        refine e_cne rfl (fun c44 => ?_) (fun c44 => ?_)
        · skip
          refine wp_go rfl rfl ?_
          refine e_get rfl H55 rfl rfl ?_
          refine wp_go rfl rfl ?_
          refine e_clt rfl (fun c68 => ?_) (fun c68 => ?_)
          · skip
            have h4 : ¬ ((tK B n i = 10 ∧ ft.isSome = true) ∨ (tK B n i = 11 ∧ fr.isSome = true)) := by
              rw [EOK_is ET, EOK_is ER]
              simp <;> omega
            rw [sCl, if_neg (fun z => z q8), if_neg h4, if_neg (show ¬ 24 ≤ nc by omega)] at hr
            refine wp_go rfl rfl ?_
            refine wp_go rfl rfl ?_
            refine e_put (fs' := [xR 56, xI (wc : Int), xR 57, xI (nc : Int), xI 0, xN, xR q2, xI lw, xR 51, xI (i : Int), xI (tK B n i), xI 1, xI 0, xI (-1)]) rfl H55 rfl rfl ?_
            refine wp_go rfl rfl ?_
            refine wp_go rfl rfl ?_
            refine e_get rfl rfl rfl rfl ?_
            refine wp_cv rfl rfl rfl rfl rfl rfl rfl ?_
            refine c_put (cl := nc) (co := 0) rfl H57 (by omega) (fun _ _ => ?_) (fun z => absurd (show 5 * nc + 0 < 120 ∧ 0 < 5 by omega) z)
            have hlt := tK_lt H hn (show tK B n i ≠ 0 by omega)
            refine wp_go rfl rfl ?_
            refine e_get rfl rfl rfl rfl ?_
            refine wp_go rfl rfl ?_
            refine e_ceq rfl (fun c99 => ?_) (fun c99 => ?_)
            · skip
              refine wp_go rfl rfl ?_
              refine wp_cv rfl rfl rfl rfl rfl rfl rfl ?_
              have hkl : tK B n i = 10 ∨ tK B n i = 11 := by omega
              obtain ⟨q, hq, hqr⟩ := sP_tot (K := tK B n) (N := tN B n) (law := tK B n i) (fun a ha => tK_big H hn ha) 4000 2 0 v (i + 1) (by decide) (by omega) (by have : rnk 2 = 4 := rfl; omega)
              rw [if_pos (show tK B n i ≤ 11 by omega), hq] at hr
              refine c_law (d := d) H hn hkl hq (by exact h91) (HT.fr (((Fr.rf (l := [55, 56, 57])).wr rfl |>.wr rfl).wr rfl) rfl) rfl H56 (fun j V e h2 qa m wq wx Q1 QA Q2 Q3 Q4 Q5 Q6 Q7 Q8 QF => ?_) (fun fl k e h2 wc2 wx tl2 rb2 Q1 Q2 Q3 Q4 QF => ?_)
              · skip
                subst e
                have G55 := Q6 (by omega)
                have G57 := QF.2.2.2 57 (by show 57 < h.1; omega) rfl
                have GT := TOKH.fa (HT.fr (((Fr.rf (l := [55, 56, 57])).wr rfl |>.wr rfl).wr rfl) rfl) QF h91 rfl
                refine wp_go rfl rfl ?_
                refine wp_go rfl rfl ?_
                refine wp_go rfl rfl ?_
                refine wp_cv rfl rfl rfl G55 rfl rfl rfl ?_
                refine c_expL H hn GT (by omega) G55 (fun z52 => ?_) (fun z52 => ?_)
                · skip
                  refine wp_go rfl rfl ?_
                  refine wp_go rfl rfl ?_
                  refine e_get rfl rfl rfl rfl ?_
                  refine wp_go rfl rfl ?_
                  refine e_iadd rfl (by omega) ?_
                  refine e_put (fs' := [xR 56, xI (m : Int), xR 57, xI ((nc : Int) + 1), xI ((1 : Nat) : Int), xR qa, xR q2, xI (tK B n i), xR 51, xI ((j + 1 : Nat) : Int), xI (tK B n (j + 1)), xI 1, xI 0, xI (-1)]) rfl rfl rfl rfl ?_
                  refine wp_ret rfl rfl ?_
                  dsimp only at hr
                  rw [if_pos z52, if_pos (show tK B n i = 10 by omega), if_neg (show ¬ tK B n i = 11 by omega)] at hr
                  have hl2 := tK_lt H hn (show tK B n j ≠ 0 by rw [z52]; decide)
                  have Q1q : qa = h.1 := Q1
                  have hqa : qa < h2.1 := QA
                  refine kok _ _ _ hr.symm _ m 1 (some qa) (some q2) _ wx (hc_u rw_ (5 * nc + 0) (tK B n i)) rfl Q8 G57 (by omega) (by omega) ?_ ?_ ?_ ?_ ⟨hu_s, fun z => absurd z (by omega), fun z => absurd z (by omega), fun z => absurd z (by omega)⟩ (fun t ht => hu_n (by omega)) (FA.le (c2 := 1) (s2 := 300) (FA.tr (l := [55, 56, 57]) (FA.tr (l := [55, 56, 57]) (Fr.fa (((Fr.rf (l := [55, 56, 57])).wr rfl |>.wr rfl).wr rfl)) QF (fun _ z => z) (nin_sub rfl)) (Fr.fa (((Fr.rf (l := [55, 56, 57])).wr rfl).wr rfl)) (fun _ z => z) (fun _ z => z)) (by omega) (by omega) (fun _ z => z))
                  · exact ⟨by omega, m, wq, (hw_ne (by omega) (hw_ne (by omega) Q2)), Q3, fun nm hnm => by have := Q4 nm hnm; rw [show tK B n i = 10 by omega] at this; exact this⟩
                  · exact ER.fa (FA.le (c2 := 1) (s2 := 300) (FA.tr (l := [55, 56, 57]) (FA.tr (l := [55, 56, 57]) (Fr.fa (((Fr.rf (l := [55, 56, 57])).wr rfl |>.wr rfl).wr rfl)) QF (fun _ z => z) (nin_sub rfl)) (Fr.fa (((Fr.rf (l := [55, 56, 57])).wr rfl).wr rfl)) (fun _ z => z) (fun _ z => z)) (by omega) (by omega) (fun _ z => z)) (by decide) LR1
                  · exact fun a e => by cases e; exact hqa
                  · exact LR1.le QF.1
                · skip
                  refine wp_go rfl rfl ?_
                  refine wp_go rfl rfl ?_
                  refine e_get rfl rfl rfl rfl ?_
                  refine wp_go rfl rfl ?_
                  refine e_iadd rfl (by omega) ?_
                  refine e_put (fs' := [xR 56, xI (m : Int), xR 57, xI ((nc : Int) + 1), xI ((1 : Nat) : Int), xR qa, xR q2, xI (tK B n i), xR 51, xI (j : Int), xI 2, xI 1, xI 1, xI ((tP B n j : Nat) : Int)]) rfl rfl rfl rfl ?_
                  refine wp_ret rfl rfl ?_
                  dsimp only at hr
                  rw [if_neg z52] at hr
                  exact kf _ _ hr.symm _ ⟨m, nc + 1, 1, _, _, _, wx, _, rfl, Q8, G57, by decide⟩ (FA.le (c2 := 1) (s2 := 300) (FA.tr (l := [55, 56, 57]) (FA.tr (l := [55, 56, 57]) (Fr.fa (((Fr.rf (l := [55, 56, 57])).wr rfl |>.wr rfl).wr rfl)) QF (fun _ z => z) (nin_sub rfl)) (Fr.fa (((Fr.rf (l := [55, 56, 57])).wr rfl).wr rfl)) (fun _ z => z) (fun _ z => z)) (by omega) (by omega) (fun _ z => z))
              · skip
                subst e
                have G57 := QF.2.2.2 57 (by show 57 < h.1; omega) rfl
                refine wp_go rfl rfl ?_
                refine wp_go rfl rfl ?_
                refine wp_go rfl rfl ?_
                refine wp_cv rfl rfl rfl Q3 rfl rfl rfl ?_
                refine c_expS Q3 Q2 (by decide) ?_
                refine wp_go rfl rfl ?_
                refine wp_go rfl rfl ?_
                refine e_get rfl Q3 rfl rfl ?_
                refine wp_go rfl rfl ?_
                refine e_iadd rfl (by omega) ?_
                refine e_put (fs' := [xR 56, xI (wc2 : Int), xR 57, xI ((nc : Int) + 1), xI ((1 : Nat) : Int), tl2, rb2, xI (tK B n i), xR 51, xI (k : Int), xI 2, xI 1, xI fl, xI ((tP B n k : Nat) : Int)]) rfl Q3 rfl rfl ?_
                refine wp_ret rfl rfl ?_
                exact kf _ _ hr.symm _ ⟨wc2, nc + 1, 1, _, _, _, wx, _, rfl, Q4, G57, Q2⟩ (FA.le (c2 := 1) (s2 := 300) (FA.tr (l := [55, 56, 57]) (FA.tr (l := [55, 56, 57]) (Fr.fa (((Fr.rf (l := [55, 56, 57])).wr rfl |>.wr rfl).wr rfl)) QF (fun _ z => z) (nin_sub rfl)) (Fr.fa ((Fr.rf (l := [55, 56, 57])).wr rfl)) (fun _ z => z) (fun _ z => z)) (by omega) (by omega) (fun _ z => z))
            · skip
              refine wp_go rfl rfl ?_
              refine e_get rfl rfl rfl rfl ?_
              refine wp_go rfl rfl ?_
              refine e_cne rfl (fun c108 => ?_) (fun c108 => ?_)
              · skip
                refine wp_go rfl rfl ?_
                refine wp_cv rfl rfl rfl rfl rfl rfl rfl ?_
                rw [if_neg (show ¬ tK B n i ≤ 11 by omega)] at hr
                obtain ⟨q, hq⟩ : ∃ z, sDe (tK B n) (tN B n) i = z := ⟨_, rfl⟩
                rw [hq] at hr
                refine c_deed (d := d + 85) H hn (by omega) hq (by omega) (HT.fr (((Fr.rf (l := [55, 56, 57])).wr rfl |>.wr rfl).wr rfl) rfl) rfl rfl (fun e h2 co2 rw2 Q1 Q2 Q3 Q4 Q5 Q6 Q7 Q8 QF => ?_) (fun fl k e h2 R QF => ?_)
                · skip
                  subst e
                  refine wp_go rfl rfl ?_
                  refine wp_go rfl rfl ?_
                  refine wp_cv rfl rfl rfl Q1 rfl rfl rfl ?_
                  refine c_expL H hn ((HT.fr (((Fr.rf (l := [55, 56, 57])).wr rfl |>.wr rfl).wr rfl) rfl).fr QF rfl) (by omega) Q1 (fun z52 => ?_) (fun z52 => ?_)
                  · skip
                    refine wp_go rfl rfl ?_
                    refine wp_go rfl rfl ?_
                    refine e_get rfl rfl rfl rfl ?_
                    refine wp_go rfl rfl ?_
                    refine e_iadd rfl (by omega) ?_
                    refine e_put (fs' := [xR 56, xI (wc : Int), xR 57, xI ((nc : Int) + 1), xI (co2 : Int), xN, xR q2, xI lw, xR 51, xI ((i + dln (tK B n i) + 1 : Nat) : Int), xI (tK B n (i + dln (tK B n i) + 1)), xI 1, xI 0, xI (-1)]) rfl rfl rfl rfl ?_
                    refine wp_ret rfl rfl ?_
                    dsimp only at hr
                    rw [if_pos z52] at hr
                    have hl2 := tK_lt H hn (show tK B n (i + dln (tK B n i)) ≠ 0 by rw [z52]; decide)
                    have hh1 : h2.1 = h.1 := QF.1
                    refine kok _ _ _ hr.symm _ wc co2 none (some q2) _ wd rw2 rfl ((QF.2.2 56 rfl).trans H56) Q3 (by omega) (by omega) ?_ ?_ ?_ ?_ ⟨(Q8 _ (by omega)).trans hu_s, Q4, fun _ z => Q5 z, fun z => ⟨Q6 (by omega), Q7 (by omega)⟩⟩ (fun t ht => (Q8 t (by omega)).trans (hu_n (by omega))) (FA.le (c2 := 1) (s2 := 300) (FA.tr (l := [55, 56, 57]) (FA.tr (l := [55, 56, 57]) (Fr.fa (((Fr.rf (l := [55, 56, 57])).wr rfl |>.wr rfl).wr rfl)) QF.fa (fun _ z => z) (nin_sub rfl)) (Fr.fa (((Fr.rf (l := [55, 56, 57])).wr rfl).wr rfl)) (fun _ z => z) (fun _ z => z)) (by omega) (by omega) (fun _ z => z))
                    · exact ET.fa (FA.le (c2 := 1) (s2 := 300) (FA.tr (l := [55, 56, 57]) (FA.tr (l := [55, 56, 57]) (Fr.fa (((Fr.rf (l := [55, 56, 57])).wr rfl |>.wr rfl).wr rfl)) QF.fa (fun _ z => z) (nin_sub rfl)) (Fr.fa (((Fr.rf (l := [55, 56, 57])).wr rfl).wr rfl)) (fun _ z => z) (fun _ z => z)) (by omega) (by omega) (fun _ z => z)) (by decide) LT1
                    · exact ER.fa (FA.le (c2 := 1) (s2 := 300) (FA.tr (l := [55, 56, 57]) (FA.tr (l := [55, 56, 57]) (Fr.fa (((Fr.rf (l := [55, 56, 57])).wr rfl |>.wr rfl).wr rfl)) QF.fa (fun _ z => z) (nin_sub rfl)) (Fr.fa (((Fr.rf (l := [55, 56, 57])).wr rfl).wr rfl)) (fun _ z => z) (fun _ z => z)) (by omega) (by omega) (fun _ z => z)) (by decide) LR1
                    · exact LT1.le (Nat.le_of_eq hh1.symm)
                    · exact LR1.le (Nat.le_of_eq hh1.symm)
                  · skip
                    refine wp_go rfl rfl ?_
                    refine wp_go rfl rfl ?_
                    refine e_get rfl rfl rfl rfl ?_
                    refine wp_go rfl rfl ?_
                    refine e_iadd rfl (by omega) ?_
                    refine e_put (fs' := [xR 56, xI (wc : Int), xR 57, xI ((nc : Int) + 1), xI (co2 : Int), xN, xR q2, xI lw, xR 51, xI ((i + dln (tK B n i) : Nat) : Int), xI 2, xI 1, xI 1, xI ((tP B n (i + dln (tK B n i)) : Nat) : Int)]) rfl rfl rfl rfl ?_
                    refine wp_ret rfl rfl ?_
                    dsimp only at hr
                    rw [if_neg z52] at hr
                    exact kf _ _ hr.symm _ ⟨wc, nc + 1, co2, _, _, _, wd, rw2, rfl, (QF.2.2 56 rfl).trans H56, Q3, by decide⟩ (FA.le (c2 := 1) (s2 := 300) (FA.tr (l := [55, 56, 57]) (FA.tr (l := [55, 56, 57]) (Fr.fa (((Fr.rf (l := [55, 56, 57])).wr rfl |>.wr rfl).wr rfl)) QF.fa (fun _ z => z) (nin_sub rfl)) (Fr.fa (((Fr.rf (l := [55, 56, 57])).wr rfl).wr rfl)) (fun _ z => z) (fun _ z => z)) (by omega) (by omega) (fun _ z => z))
                · skip
                  subst e
                  obtain ⟨co2, rq, hw2, G55, G57, hf2⟩ := id R
                  refine wp_go rfl rfl ?_
                  refine wp_go rfl rfl ?_
                  refine wp_cv rfl rfl rfl G55 rfl rfl rfl ?_
                  refine c_expS G55 hf2 (by decide) ?_
                  refine wp_go rfl rfl ?_
                  refine wp_go rfl rfl ?_
                  refine e_get rfl G55 rfl rfl ?_
                  refine wp_go rfl rfl ?_
                  refine e_iadd rfl (by omega) ?_
                  refine e_put (fs' := [xR 56, xI (wc : Int), xR 57, xI ((nc : Int) + 1), xI (co2 : Int), xN, xR q2, xI lw, xR 51, xI (k : Int), xI 2, xI 1, xI fl, xI ((tP B n k : Nat) : Int)]) rfl G55 rfl rfl ?_
                  refine wp_ret rfl rfl ?_
                  exact kf _ _ hr.symm _ ⟨wc, nc + 1, co2, _, _, _, wd, rq, rfl, (QF.2.2 56 rfl).trans H56, G57, hf2⟩ (FA.le (c2 := 1) (s2 := 300) (FA.tr (l := [55, 56, 57]) (FA.tr (l := [55, 56, 57]) (Fr.fa (((Fr.rf (l := [55, 56, 57])).wr rfl |>.wr rfl).wr rfl)) QF.fa (fun _ z => z) (nin_sub rfl)) (Fr.fa ((Fr.rf (l := [55, 56, 57])).wr rfl)) (fun _ z => z) (fun _ z => z)) (by omega) (by omega) (fun _ z => z))
              · skip
                refine wp_go rfl rfl ?_
                refine wp_cv rfl rfl rfl rfl rfl rfl rfl ?_
                have hkl : tK B n i = 10 ∨ tK B n i = 11 := by omega
                obtain ⟨q, hq, hqr⟩ := sP_tot (K := tK B n) (N := tN B n) (law := tK B n i) (fun a ha => tK_big H hn ha) 4000 2 0 v (i + 1) (by decide) (by omega) (by have : rnk 2 = 4 := rfl; omega)
                rw [if_pos (show tK B n i ≤ 11 by omega), hq] at hr
                refine c_law (d := d) H hn hkl hq (by exact h91) (HT.fr (((Fr.rf (l := [55, 56, 57])).wr rfl |>.wr rfl).wr rfl) rfl) rfl H56 (fun j V e h2 qa m wq wx Q1 QA Q2 Q3 Q4 Q5 Q6 Q7 Q8 QF => ?_) (fun fl k e h2 wc2 wx tl2 rb2 Q1 Q2 Q3 Q4 QF => ?_)
                · skip
                  subst e
                  have G55 := Q7 (by omega)
                  have G57 := QF.2.2.2 57 (by show 57 < h.1; omega) rfl
                  have GT := TOKH.fa (HT.fr (((Fr.rf (l := [55, 56, 57])).wr rfl |>.wr rfl).wr rfl) rfl) QF h91 rfl
                  refine wp_go rfl rfl ?_
                  refine wp_go rfl rfl ?_
                  refine wp_go rfl rfl ?_
                  refine wp_cv rfl rfl rfl G55 rfl rfl rfl ?_
                  refine c_expL H hn GT (by omega) G55 (fun z52 => ?_) (fun z52 => ?_)
                  · skip
                    refine wp_go rfl rfl ?_
                    refine wp_go rfl rfl ?_
                    refine e_get rfl rfl rfl rfl ?_
                    refine wp_go rfl rfl ?_
                    refine e_iadd rfl (by omega) ?_
                    refine e_put (fs' := [xR 56, xI (m : Int), xR 57, xI ((nc : Int) + 1), xI ((1 : Nat) : Int), xN, xR qa, xI (tK B n i), xR 51, xI ((j + 1 : Nat) : Int), xI (tK B n (j + 1)), xI 1, xI 0, xI (-1)]) rfl rfl rfl rfl ?_
                    refine wp_ret rfl rfl ?_
                    dsimp only at hr
                    rw [if_pos z52, if_neg (show ¬ tK B n i = 10 by omega), if_pos (show tK B n i = 11 by omega)] at hr
                    have hl2 := tK_lt H hn (show tK B n j ≠ 0 by rw [z52]; decide)
                    have Q1q : qa = h.1 := Q1
                    have hqa : qa < h2.1 := QA
                    refine kok _ _ _ hr.symm _ m 1 none (some qa) _ wx (hc_u rw_ (5 * nc + 0) (tK B n i)) rfl Q8 G57 (by omega) (by omega) ?_ ?_ ?_ ?_ ⟨hu_s, fun z => absurd z (by omega), fun z => absurd z (by omega), fun z => absurd z (by omega)⟩ (fun t ht => hu_n (by omega)) (FA.le (c2 := 1) (s2 := 300) (FA.tr (l := [55, 56, 57]) (FA.tr (l := [55, 56, 57]) (Fr.fa (((Fr.rf (l := [55, 56, 57])).wr rfl |>.wr rfl).wr rfl)) QF (fun _ z => z) (nin_sub rfl)) (Fr.fa (((Fr.rf (l := [55, 56, 57])).wr rfl).wr rfl)) (fun _ z => z) (fun _ z => z)) (by omega) (by omega) (fun _ z => z))
                    · exact ET.fa (FA.le (c2 := 1) (s2 := 300) (FA.tr (l := [55, 56, 57]) (FA.tr (l := [55, 56, 57]) (Fr.fa (((Fr.rf (l := [55, 56, 57])).wr rfl |>.wr rfl).wr rfl)) QF (fun _ z => z) (nin_sub rfl)) (Fr.fa (((Fr.rf (l := [55, 56, 57])).wr rfl).wr rfl)) (fun _ z => z) (fun _ z => z)) (by omega) (by omega) (fun _ z => z)) (by decide) LT1
                    · exact ⟨by omega, m, wq, (hw_ne (by omega) (hw_ne (by omega) Q2)), Q3, fun nm hnm => by have := Q4 nm hnm; rw [show tK B n i = 11 by omega] at this; exact this⟩
                    · exact LT1.le QF.1
                    · exact fun a e => by cases e; exact hqa
                  · skip
                    refine wp_go rfl rfl ?_
                    refine wp_go rfl rfl ?_
                    refine e_get rfl rfl rfl rfl ?_
                    refine wp_go rfl rfl ?_
                    refine e_iadd rfl (by omega) ?_
                    refine e_put (fs' := [xR 56, xI (m : Int), xR 57, xI ((nc : Int) + 1), xI ((1 : Nat) : Int), xN, xR qa, xI (tK B n i), xR 51, xI (j : Int), xI 2, xI 1, xI 1, xI ((tP B n j : Nat) : Int)]) rfl rfl rfl rfl ?_
                    refine wp_ret rfl rfl ?_
                    dsimp only at hr
                    rw [if_neg z52] at hr
                    exact kf _ _ hr.symm _ ⟨m, nc + 1, 1, _, _, _, wx, _, rfl, Q8, G57, by decide⟩ (FA.le (c2 := 1) (s2 := 300) (FA.tr (l := [55, 56, 57]) (FA.tr (l := [55, 56, 57]) (Fr.fa (((Fr.rf (l := [55, 56, 57])).wr rfl |>.wr rfl).wr rfl)) QF (fun _ z => z) (nin_sub rfl)) (Fr.fa (((Fr.rf (l := [55, 56, 57])).wr rfl).wr rfl)) (fun _ z => z) (fun _ z => z)) (by omega) (by omega) (fun _ z => z))
                · skip
                  subst e
                  have G57 := QF.2.2.2 57 (by show 57 < h.1; omega) rfl
                  refine wp_go rfl rfl ?_
                  refine wp_go rfl rfl ?_
                  refine wp_go rfl rfl ?_
                  refine wp_cv rfl rfl rfl Q3 rfl rfl rfl ?_
                  refine c_expS Q3 Q2 (by decide) ?_
                  refine wp_go rfl rfl ?_
                  refine wp_go rfl rfl ?_
                  refine e_get rfl Q3 rfl rfl ?_
                  refine wp_go rfl rfl ?_
                  refine e_iadd rfl (by omega) ?_
                  refine e_put (fs' := [xR 56, xI (wc2 : Int), xR 57, xI ((nc : Int) + 1), xI ((1 : Nat) : Int), tl2, rb2, xI (tK B n i), xR 51, xI (k : Int), xI 2, xI 1, xI fl, xI ((tP B n k : Nat) : Int)]) rfl Q3 rfl rfl ?_
                  refine wp_ret rfl rfl ?_
                  exact kf _ _ hr.symm _ ⟨wc2, nc + 1, 1, _, _, _, wx, _, rfl, Q4, G57, Q2⟩ (FA.le (c2 := 1) (s2 := 300) (FA.tr (l := [55, 56, 57]) (FA.tr (l := [55, 56, 57]) (Fr.fa (((Fr.rf (l := [55, 56, 57])).wr rfl |>.wr rfl).wr rfl)) QF (fun _ z => z) (nin_sub rfl)) (Fr.fa ((Fr.rf (l := [55, 56, 57])).wr rfl)) (fun _ z => z) (fun _ z => z)) (by omega) (by omega) (fun _ z => z))
          · skip
            have h4 : ¬ ((tK B n i = 10 ∧ ft.isSome = true) ∨ (tK B n i = 11 ∧ fr.isSome = true)) := by
              rw [EOK_is ET, EOK_is ER]
              simp <;> omega
            refine wp_go rfl rfl ?_
            refine wp_go rfl rfl ?_
            refine wp_cv rfl rfl rfl H55 rfl rfl rfl ?_
            refine c_refL H hn HT H55 ?_
            refine wp_go rfl rfl ?_
            refine wp_ret rfl rfl ?_
            rw [sCl, if_neg (fun z => z q8), if_neg h4, if_pos (show 24 ≤ nc by omega)] at hr
            exact kf _ _ hr.symm _ ⟨wc, nc, co, _, _, _, wd, rw_, rfl, H56, H57, by decide⟩ (FA.le (Fr.fa ((Fr.rf (l := [55, 56, 57])).wr rfl)) (by omega) (by omega) (fun _ z => z))
        · skip
          refine wp_go rfl rfl ?_
          refine e_get rfl H55 rfl rfl ?_
          refine wp_go rfl rfl ?_
          refine wp_go rfl rfl ?_
          refine wp_go rfl rfl ?_
          refine wp_cv rfl rfl rfl H55 rfl rfl rfl ?_
          refine c_refL H hn HT H55 ?_
          refine wp_go rfl rfl ?_
          refine wp_ret rfl rfl ?_
          rw [sCl, if_neg (fun z => z q8), if_pos (Or.inr ⟨by omega, by rw [EOK_is ER]; rfl⟩)] at hr
          exact kf _ _ hr.symm _ ⟨wc, nc, co, _, _, _, wd, rw_, rfl, H56, H57, by decide⟩ (FA.le (Fr.fa ((Fr.rf (l := [55, 56, 57])).wr rfl)) (by omega) (by omega) (fun _ z => z))
      · skip
        refine wp_go rfl rfl ?_
        refine e_get rfl H55 rfl rfl ?_
        refine wp_go rfl rfl ?_
        refine wp_go rfl rfl ?_
        refine e_get rfl H55 rfl rfl ?_
        refine wp_go rfl rfl ?_
        refine e_cne rfl (fun c44 => ?_) (fun c44 => ?_)
        · skip
          refine wp_go rfl rfl ?_
          refine e_get rfl H55 rfl rfl ?_
          refine wp_go rfl rfl ?_
          refine e_clt rfl (fun c68 => ?_) (fun c68 => ?_)
          · skip
            have h4 : ¬ ((tK B n i = 10 ∧ ft.isSome = true) ∨ (tK B n i = 11 ∧ fr.isSome = true)) := by
              rw [EOK_is ET, EOK_is ER]
              simp <;> omega
            rw [sCl, if_neg (fun z => z q8), if_neg h4, if_neg (show ¬ 24 ≤ nc by omega)] at hr
            refine wp_go rfl rfl ?_
            refine wp_go rfl rfl ?_
            refine e_put (fs' := [xR 56, xI (wc : Int), xR 57, xI (nc : Int), xI 0, xN, xR q2, xI lw, xR 51, xI (i : Int), xI (tK B n i), xI 1, xI 0, xI (-1)]) rfl H55 rfl rfl ?_
            refine wp_go rfl rfl ?_
            refine wp_go rfl rfl ?_
            refine e_get rfl rfl rfl rfl ?_
            refine wp_cv rfl rfl rfl rfl rfl rfl rfl ?_
            refine c_put (cl := nc) (co := 0) rfl H57 (by omega) (fun _ _ => ?_) (fun z => absurd (show 5 * nc + 0 < 120 ∧ 0 < 5 by omega) z)
            have hlt := tK_lt H hn (show tK B n i ≠ 0 by omega)
            refine wp_go rfl rfl ?_
            refine e_get rfl rfl rfl rfl ?_
            refine wp_go rfl rfl ?_
            refine e_ceq rfl (fun c99 => ?_) (fun c99 => ?_)
            · skip
              refine wp_go rfl rfl ?_
              refine wp_cv rfl rfl rfl rfl rfl rfl rfl ?_
              have hkl : tK B n i = 10 ∨ tK B n i = 11 := by omega
              obtain ⟨q, hq, hqr⟩ := sP_tot (K := tK B n) (N := tN B n) (law := tK B n i) (fun a ha => tK_big H hn ha) 4000 2 0 v (i + 1) (by decide) (by omega) (by have : rnk 2 = 4 := rfl; omega)
              rw [if_pos (show tK B n i ≤ 11 by omega), hq] at hr
              refine c_law (d := d) H hn hkl hq (by exact h91) (HT.fr (((Fr.rf (l := [55, 56, 57])).wr rfl |>.wr rfl).wr rfl) rfl) rfl H56 (fun j V e h2 qa m wq wx Q1 QA Q2 Q3 Q4 Q5 Q6 Q7 Q8 QF => ?_) (fun fl k e h2 wc2 wx tl2 rb2 Q1 Q2 Q3 Q4 QF => ?_)
              · skip
                subst e
                have G55 := Q6 (by omega)
                have G57 := QF.2.2.2 57 (by show 57 < h.1; omega) rfl
                have GT := TOKH.fa (HT.fr (((Fr.rf (l := [55, 56, 57])).wr rfl |>.wr rfl).wr rfl) rfl) QF h91 rfl
                refine wp_go rfl rfl ?_
                refine wp_go rfl rfl ?_
                refine wp_go rfl rfl ?_
                refine wp_cv rfl rfl rfl G55 rfl rfl rfl ?_
                refine c_expL H hn GT (by omega) G55 (fun z52 => ?_) (fun z52 => ?_)
                · skip
                  refine wp_go rfl rfl ?_
                  refine wp_go rfl rfl ?_
                  refine e_get rfl rfl rfl rfl ?_
                  refine wp_go rfl rfl ?_
                  refine e_iadd rfl (by omega) ?_
                  refine e_put (fs' := [xR 56, xI (m : Int), xR 57, xI ((nc : Int) + 1), xI ((1 : Nat) : Int), xR qa, xR q2, xI (tK B n i), xR 51, xI ((j + 1 : Nat) : Int), xI (tK B n (j + 1)), xI 1, xI 0, xI (-1)]) rfl rfl rfl rfl ?_
                  refine wp_ret rfl rfl ?_
                  dsimp only at hr
                  rw [if_pos z52, if_pos (show tK B n i = 10 by omega), if_neg (show ¬ tK B n i = 11 by omega)] at hr
                  have hl2 := tK_lt H hn (show tK B n j ≠ 0 by rw [z52]; decide)
                  have Q1q : qa = h.1 := Q1
                  have hqa : qa < h2.1 := QA
                  refine kok _ _ _ hr.symm _ m 1 (some qa) (some q2) _ wx (hc_u rw_ (5 * nc + 0) (tK B n i)) rfl Q8 G57 (by omega) (by omega) ?_ ?_ ?_ ?_ ⟨hu_s, fun z => absurd z (by omega), fun z => absurd z (by omega), fun z => absurd z (by omega)⟩ (fun t ht => hu_n (by omega)) (FA.le (c2 := 1) (s2 := 300) (FA.tr (l := [55, 56, 57]) (FA.tr (l := [55, 56, 57]) (Fr.fa (((Fr.rf (l := [55, 56, 57])).wr rfl |>.wr rfl).wr rfl)) QF (fun _ z => z) (nin_sub rfl)) (Fr.fa (((Fr.rf (l := [55, 56, 57])).wr rfl).wr rfl)) (fun _ z => z) (fun _ z => z)) (by omega) (by omega) (fun _ z => z))
                  · exact ⟨by omega, m, wq, (hw_ne (by omega) (hw_ne (by omega) Q2)), Q3, fun nm hnm => by have := Q4 nm hnm; rw [show tK B n i = 10 by omega] at this; exact this⟩
                  · exact ER.fa (FA.le (c2 := 1) (s2 := 300) (FA.tr (l := [55, 56, 57]) (FA.tr (l := [55, 56, 57]) (Fr.fa (((Fr.rf (l := [55, 56, 57])).wr rfl |>.wr rfl).wr rfl)) QF (fun _ z => z) (nin_sub rfl)) (Fr.fa (((Fr.rf (l := [55, 56, 57])).wr rfl).wr rfl)) (fun _ z => z) (fun _ z => z)) (by omega) (by omega) (fun _ z => z)) (by decide) LR1
                  · exact fun a e => by cases e; exact hqa
                  · exact LR1.le QF.1
                · skip
                  refine wp_go rfl rfl ?_
                  refine wp_go rfl rfl ?_
                  refine e_get rfl rfl rfl rfl ?_
                  refine wp_go rfl rfl ?_
                  refine e_iadd rfl (by omega) ?_
                  refine e_put (fs' := [xR 56, xI (m : Int), xR 57, xI ((nc : Int) + 1), xI ((1 : Nat) : Int), xR qa, xR q2, xI (tK B n i), xR 51, xI (j : Int), xI 2, xI 1, xI 1, xI ((tP B n j : Nat) : Int)]) rfl rfl rfl rfl ?_
                  refine wp_ret rfl rfl ?_
                  dsimp only at hr
                  rw [if_neg z52] at hr
                  exact kf _ _ hr.symm _ ⟨m, nc + 1, 1, _, _, _, wx, _, rfl, Q8, G57, by decide⟩ (FA.le (c2 := 1) (s2 := 300) (FA.tr (l := [55, 56, 57]) (FA.tr (l := [55, 56, 57]) (Fr.fa (((Fr.rf (l := [55, 56, 57])).wr rfl |>.wr rfl).wr rfl)) QF (fun _ z => z) (nin_sub rfl)) (Fr.fa (((Fr.rf (l := [55, 56, 57])).wr rfl).wr rfl)) (fun _ z => z) (fun _ z => z)) (by omega) (by omega) (fun _ z => z))
              · skip
                subst e
                have G57 := QF.2.2.2 57 (by show 57 < h.1; omega) rfl
                refine wp_go rfl rfl ?_
                refine wp_go rfl rfl ?_
                refine wp_go rfl rfl ?_
                refine wp_cv rfl rfl rfl Q3 rfl rfl rfl ?_
                refine c_expS Q3 Q2 (by decide) ?_
                refine wp_go rfl rfl ?_
                refine wp_go rfl rfl ?_
                refine e_get rfl Q3 rfl rfl ?_
                refine wp_go rfl rfl ?_
                refine e_iadd rfl (by omega) ?_
                refine e_put (fs' := [xR 56, xI (wc2 : Int), xR 57, xI ((nc : Int) + 1), xI ((1 : Nat) : Int), tl2, rb2, xI (tK B n i), xR 51, xI (k : Int), xI 2, xI 1, xI fl, xI ((tP B n k : Nat) : Int)]) rfl Q3 rfl rfl ?_
                refine wp_ret rfl rfl ?_
                exact kf _ _ hr.symm _ ⟨wc2, nc + 1, 1, _, _, _, wx, _, rfl, Q4, G57, Q2⟩ (FA.le (c2 := 1) (s2 := 300) (FA.tr (l := [55, 56, 57]) (FA.tr (l := [55, 56, 57]) (Fr.fa (((Fr.rf (l := [55, 56, 57])).wr rfl |>.wr rfl).wr rfl)) QF (fun _ z => z) (nin_sub rfl)) (Fr.fa ((Fr.rf (l := [55, 56, 57])).wr rfl)) (fun _ z => z) (fun _ z => z)) (by omega) (by omega) (fun _ z => z))
            · skip
              refine wp_go rfl rfl ?_
              refine e_get rfl rfl rfl rfl ?_
              refine wp_go rfl rfl ?_
              refine e_cne rfl (fun c108 => ?_) (fun c108 => ?_)
              · skip
                refine wp_go rfl rfl ?_
                refine wp_cv rfl rfl rfl rfl rfl rfl rfl ?_
                rw [if_neg (show ¬ tK B n i ≤ 11 by omega)] at hr
                obtain ⟨q, hq⟩ : ∃ z, sDe (tK B n) (tN B n) i = z := ⟨_, rfl⟩
                rw [hq] at hr
                refine c_deed (d := d + 85) H hn (by omega) hq (by omega) (HT.fr (((Fr.rf (l := [55, 56, 57])).wr rfl |>.wr rfl).wr rfl) rfl) rfl rfl (fun e h2 co2 rw2 Q1 Q2 Q3 Q4 Q5 Q6 Q7 Q8 QF => ?_) (fun fl k e h2 R QF => ?_)
                · skip
                  subst e
                  refine wp_go rfl rfl ?_
                  refine wp_go rfl rfl ?_
                  refine wp_cv rfl rfl rfl Q1 rfl rfl rfl ?_
                  refine c_expL H hn ((HT.fr (((Fr.rf (l := [55, 56, 57])).wr rfl |>.wr rfl).wr rfl) rfl).fr QF rfl) (by omega) Q1 (fun z52 => ?_) (fun z52 => ?_)
                  · skip
                    refine wp_go rfl rfl ?_
                    refine wp_go rfl rfl ?_
                    refine e_get rfl rfl rfl rfl ?_
                    refine wp_go rfl rfl ?_
                    refine e_iadd rfl (by omega) ?_
                    refine e_put (fs' := [xR 56, xI (wc : Int), xR 57, xI ((nc : Int) + 1), xI (co2 : Int), xN, xR q2, xI lw, xR 51, xI ((i + dln (tK B n i) + 1 : Nat) : Int), xI (tK B n (i + dln (tK B n i) + 1)), xI 1, xI 0, xI (-1)]) rfl rfl rfl rfl ?_
                    refine wp_ret rfl rfl ?_
                    dsimp only at hr
                    rw [if_pos z52] at hr
                    have hl2 := tK_lt H hn (show tK B n (i + dln (tK B n i)) ≠ 0 by rw [z52]; decide)
                    have hh1 : h2.1 = h.1 := QF.1
                    refine kok _ _ _ hr.symm _ wc co2 none (some q2) _ wd rw2 rfl ((QF.2.2 56 rfl).trans H56) Q3 (by omega) (by omega) ?_ ?_ ?_ ?_ ⟨(Q8 _ (by omega)).trans hu_s, Q4, fun _ z => Q5 z, fun z => ⟨Q6 (by omega), Q7 (by omega)⟩⟩ (fun t ht => (Q8 t (by omega)).trans (hu_n (by omega))) (FA.le (c2 := 1) (s2 := 300) (FA.tr (l := [55, 56, 57]) (FA.tr (l := [55, 56, 57]) (Fr.fa (((Fr.rf (l := [55, 56, 57])).wr rfl |>.wr rfl).wr rfl)) QF.fa (fun _ z => z) (nin_sub rfl)) (Fr.fa (((Fr.rf (l := [55, 56, 57])).wr rfl).wr rfl)) (fun _ z => z) (fun _ z => z)) (by omega) (by omega) (fun _ z => z))
                    · exact ET.fa (FA.le (c2 := 1) (s2 := 300) (FA.tr (l := [55, 56, 57]) (FA.tr (l := [55, 56, 57]) (Fr.fa (((Fr.rf (l := [55, 56, 57])).wr rfl |>.wr rfl).wr rfl)) QF.fa (fun _ z => z) (nin_sub rfl)) (Fr.fa (((Fr.rf (l := [55, 56, 57])).wr rfl).wr rfl)) (fun _ z => z) (fun _ z => z)) (by omega) (by omega) (fun _ z => z)) (by decide) LT1
                    · exact ER.fa (FA.le (c2 := 1) (s2 := 300) (FA.tr (l := [55, 56, 57]) (FA.tr (l := [55, 56, 57]) (Fr.fa (((Fr.rf (l := [55, 56, 57])).wr rfl |>.wr rfl).wr rfl)) QF.fa (fun _ z => z) (nin_sub rfl)) (Fr.fa (((Fr.rf (l := [55, 56, 57])).wr rfl).wr rfl)) (fun _ z => z) (fun _ z => z)) (by omega) (by omega) (fun _ z => z)) (by decide) LR1
                    · exact LT1.le (Nat.le_of_eq hh1.symm)
                    · exact LR1.le (Nat.le_of_eq hh1.symm)
                  · skip
                    refine wp_go rfl rfl ?_
                    refine wp_go rfl rfl ?_
                    refine e_get rfl rfl rfl rfl ?_
                    refine wp_go rfl rfl ?_
                    refine e_iadd rfl (by omega) ?_
                    refine e_put (fs' := [xR 56, xI (wc : Int), xR 57, xI ((nc : Int) + 1), xI (co2 : Int), xN, xR q2, xI lw, xR 51, xI ((i + dln (tK B n i) : Nat) : Int), xI 2, xI 1, xI 1, xI ((tP B n (i + dln (tK B n i)) : Nat) : Int)]) rfl rfl rfl rfl ?_
                    refine wp_ret rfl rfl ?_
                    dsimp only at hr
                    rw [if_neg z52] at hr
                    exact kf _ _ hr.symm _ ⟨wc, nc + 1, co2, _, _, _, wd, rw2, rfl, (QF.2.2 56 rfl).trans H56, Q3, by decide⟩ (FA.le (c2 := 1) (s2 := 300) (FA.tr (l := [55, 56, 57]) (FA.tr (l := [55, 56, 57]) (Fr.fa (((Fr.rf (l := [55, 56, 57])).wr rfl |>.wr rfl).wr rfl)) QF.fa (fun _ z => z) (nin_sub rfl)) (Fr.fa (((Fr.rf (l := [55, 56, 57])).wr rfl).wr rfl)) (fun _ z => z) (fun _ z => z)) (by omega) (by omega) (fun _ z => z))
                · skip
                  subst e
                  obtain ⟨co2, rq, hw2, G55, G57, hf2⟩ := id R
                  refine wp_go rfl rfl ?_
                  refine wp_go rfl rfl ?_
                  refine wp_cv rfl rfl rfl G55 rfl rfl rfl ?_
                  refine c_expS G55 hf2 (by decide) ?_
                  refine wp_go rfl rfl ?_
                  refine wp_go rfl rfl ?_
                  refine e_get rfl G55 rfl rfl ?_
                  refine wp_go rfl rfl ?_
                  refine e_iadd rfl (by omega) ?_
                  refine e_put (fs' := [xR 56, xI (wc : Int), xR 57, xI ((nc : Int) + 1), xI (co2 : Int), xN, xR q2, xI lw, xR 51, xI (k : Int), xI 2, xI 1, xI fl, xI ((tP B n k : Nat) : Int)]) rfl G55 rfl rfl ?_
                  refine wp_ret rfl rfl ?_
                  exact kf _ _ hr.symm _ ⟨wc, nc + 1, co2, _, _, _, wd, rq, rfl, (QF.2.2 56 rfl).trans H56, G57, hf2⟩ (FA.le (c2 := 1) (s2 := 300) (FA.tr (l := [55, 56, 57]) (FA.tr (l := [55, 56, 57]) (Fr.fa (((Fr.rf (l := [55, 56, 57])).wr rfl |>.wr rfl).wr rfl)) QF.fa (fun _ z => z) (nin_sub rfl)) (Fr.fa ((Fr.rf (l := [55, 56, 57])).wr rfl)) (fun _ z => z) (fun _ z => z)) (by omega) (by omega) (fun _ z => z))
              · skip
                refine wp_go rfl rfl ?_
                refine wp_cv rfl rfl rfl rfl rfl rfl rfl ?_
                have hkl : tK B n i = 10 ∨ tK B n i = 11 := by omega
                obtain ⟨q, hq, hqr⟩ := sP_tot (K := tK B n) (N := tN B n) (law := tK B n i) (fun a ha => tK_big H hn ha) 4000 2 0 v (i + 1) (by decide) (by omega) (by have : rnk 2 = 4 := rfl; omega)
                rw [if_pos (show tK B n i ≤ 11 by omega), hq] at hr
                refine c_law (d := d) H hn hkl hq (by exact h91) (HT.fr (((Fr.rf (l := [55, 56, 57])).wr rfl |>.wr rfl).wr rfl) rfl) rfl H56 (fun j V e h2 qa m wq wx Q1 QA Q2 Q3 Q4 Q5 Q6 Q7 Q8 QF => ?_) (fun fl k e h2 wc2 wx tl2 rb2 Q1 Q2 Q3 Q4 QF => ?_)
                · skip
                  subst e
                  have G55 := Q7 (by omega)
                  have G57 := QF.2.2.2 57 (by show 57 < h.1; omega) rfl
                  have GT := TOKH.fa (HT.fr (((Fr.rf (l := [55, 56, 57])).wr rfl |>.wr rfl).wr rfl) rfl) QF h91 rfl
                  refine wp_go rfl rfl ?_
                  refine wp_go rfl rfl ?_
                  refine wp_go rfl rfl ?_
                  refine wp_cv rfl rfl rfl G55 rfl rfl rfl ?_
                  refine c_expL H hn GT (by omega) G55 (fun z52 => ?_) (fun z52 => ?_)
                  · skip
                    refine wp_go rfl rfl ?_
                    refine wp_go rfl rfl ?_
                    refine e_get rfl rfl rfl rfl ?_
                    refine wp_go rfl rfl ?_
                    refine e_iadd rfl (by omega) ?_
                    refine e_put (fs' := [xR 56, xI (m : Int), xR 57, xI ((nc : Int) + 1), xI ((1 : Nat) : Int), xN, xR qa, xI (tK B n i), xR 51, xI ((j + 1 : Nat) : Int), xI (tK B n (j + 1)), xI 1, xI 0, xI (-1)]) rfl rfl rfl rfl ?_
                    refine wp_ret rfl rfl ?_
                    dsimp only at hr
                    rw [if_pos z52, if_neg (show ¬ tK B n i = 10 by omega), if_pos (show tK B n i = 11 by omega)] at hr
                    have hl2 := tK_lt H hn (show tK B n j ≠ 0 by rw [z52]; decide)
                    have Q1q : qa = h.1 := Q1
                    have hqa : qa < h2.1 := QA
                    refine kok _ _ _ hr.symm _ m 1 none (some qa) _ wx (hc_u rw_ (5 * nc + 0) (tK B n i)) rfl Q8 G57 (by omega) (by omega) ?_ ?_ ?_ ?_ ⟨hu_s, fun z => absurd z (by omega), fun z => absurd z (by omega), fun z => absurd z (by omega)⟩ (fun t ht => hu_n (by omega)) (FA.le (c2 := 1) (s2 := 300) (FA.tr (l := [55, 56, 57]) (FA.tr (l := [55, 56, 57]) (Fr.fa (((Fr.rf (l := [55, 56, 57])).wr rfl |>.wr rfl).wr rfl)) QF (fun _ z => z) (nin_sub rfl)) (Fr.fa (((Fr.rf (l := [55, 56, 57])).wr rfl).wr rfl)) (fun _ z => z) (fun _ z => z)) (by omega) (by omega) (fun _ z => z))
                    · exact ET.fa (FA.le (c2 := 1) (s2 := 300) (FA.tr (l := [55, 56, 57]) (FA.tr (l := [55, 56, 57]) (Fr.fa (((Fr.rf (l := [55, 56, 57])).wr rfl |>.wr rfl).wr rfl)) QF (fun _ z => z) (nin_sub rfl)) (Fr.fa (((Fr.rf (l := [55, 56, 57])).wr rfl).wr rfl)) (fun _ z => z) (fun _ z => z)) (by omega) (by omega) (fun _ z => z)) (by decide) LT1
                    · exact ⟨by omega, m, wq, (hw_ne (by omega) (hw_ne (by omega) Q2)), Q3, fun nm hnm => by have := Q4 nm hnm; rw [show tK B n i = 11 by omega] at this; exact this⟩
                    · exact LT1.le QF.1
                    · exact fun a e => by cases e; exact hqa
                  · skip
                    refine wp_go rfl rfl ?_
                    refine wp_go rfl rfl ?_
                    refine e_get rfl rfl rfl rfl ?_
                    refine wp_go rfl rfl ?_
                    refine e_iadd rfl (by omega) ?_
                    refine e_put (fs' := [xR 56, xI (m : Int), xR 57, xI ((nc : Int) + 1), xI ((1 : Nat) : Int), xN, xR qa, xI (tK B n i), xR 51, xI (j : Int), xI 2, xI 1, xI 1, xI ((tP B n j : Nat) : Int)]) rfl rfl rfl rfl ?_
                    refine wp_ret rfl rfl ?_
                    dsimp only at hr
                    rw [if_neg z52] at hr
                    exact kf _ _ hr.symm _ ⟨m, nc + 1, 1, _, _, _, wx, _, rfl, Q8, G57, by decide⟩ (FA.le (c2 := 1) (s2 := 300) (FA.tr (l := [55, 56, 57]) (FA.tr (l := [55, 56, 57]) (Fr.fa (((Fr.rf (l := [55, 56, 57])).wr rfl |>.wr rfl).wr rfl)) QF (fun _ z => z) (nin_sub rfl)) (Fr.fa (((Fr.rf (l := [55, 56, 57])).wr rfl).wr rfl)) (fun _ z => z) (fun _ z => z)) (by omega) (by omega) (fun _ z => z))
                · skip
                  subst e
                  have G57 := QF.2.2.2 57 (by show 57 < h.1; omega) rfl
                  refine wp_go rfl rfl ?_
                  refine wp_go rfl rfl ?_
                  refine wp_go rfl rfl ?_
                  refine wp_cv rfl rfl rfl Q3 rfl rfl rfl ?_
                  refine c_expS Q3 Q2 (by decide) ?_
                  refine wp_go rfl rfl ?_
                  refine wp_go rfl rfl ?_
                  refine e_get rfl Q3 rfl rfl ?_
                  refine wp_go rfl rfl ?_
                  refine e_iadd rfl (by omega) ?_
                  refine e_put (fs' := [xR 56, xI (wc2 : Int), xR 57, xI ((nc : Int) + 1), xI ((1 : Nat) : Int), tl2, rb2, xI (tK B n i), xR 51, xI (k : Int), xI 2, xI 1, xI fl, xI ((tP B n k : Nat) : Int)]) rfl Q3 rfl rfl ?_
                  refine wp_ret rfl rfl ?_
                  exact kf _ _ hr.symm _ ⟨wc2, nc + 1, 1, _, _, _, wx, _, rfl, Q4, G57, Q2⟩ (FA.le (c2 := 1) (s2 := 300) (FA.tr (l := [55, 56, 57]) (FA.tr (l := [55, 56, 57]) (Fr.fa (((Fr.rf (l := [55, 56, 57])).wr rfl |>.wr rfl).wr rfl)) QF (fun _ z => z) (nin_sub rfl)) (Fr.fa ((Fr.rf (l := [55, 56, 57])).wr rfl)) (fun _ z => z) (fun _ z => z)) (by omega) (by omega) (fun _ z => z))
          · skip
            have h4 : ¬ ((tK B n i = 10 ∧ ft.isSome = true) ∨ (tK B n i = 11 ∧ fr.isSome = true)) := by
              rw [EOK_is ET, EOK_is ER]
              simp <;> omega
            refine wp_go rfl rfl ?_
            refine wp_go rfl rfl ?_
            refine wp_cv rfl rfl rfl H55 rfl rfl rfl ?_
            refine c_refL H hn HT H55 ?_
            refine wp_go rfl rfl ?_
            refine wp_ret rfl rfl ?_
            rw [sCl, if_neg (fun z => z q8), if_neg h4, if_pos (show 24 ≤ nc by omega)] at hr
            exact kf _ _ hr.symm _ ⟨wc, nc, co, _, _, _, wd, rw_, rfl, H56, H57, by decide⟩ (FA.le (Fr.fa ((Fr.rf (l := [55, 56, 57])).wr rfl)) (by omega) (by omega) (fun _ z => z))
        · skip
          refine wp_go rfl rfl ?_
          refine e_get rfl H55 rfl rfl ?_
          refine wp_go rfl rfl ?_
          refine wp_go rfl rfl ?_
          refine wp_go rfl rfl ?_
          refine wp_cv rfl rfl rfl H55 rfl rfl rfl ?_
          refine c_refL H hn HT H55 ?_
          refine wp_go rfl rfl ?_
          refine wp_ret rfl rfl ?_
          rw [sCl, if_neg (fun z => z q8), if_pos (Or.inr ⟨by omega, by rw [EOK_is ER]; rfl⟩)] at hr
          exact kf _ _ hr.symm _ ⟨wc, nc, co, _, _, _, wd, rw_, rfl, H56, H57, by decide⟩ (FA.le (Fr.fa ((Fr.rf (l := [55, 56, 57])).wr rfl)) (by omega) (by omega) (fun _ z => z))
    · skip
      refine wp_go rfl rfl ?_
      refine wp_go rfl rfl ?_
      refine wp_go rfl rfl ?_
      refine wp_cv rfl rfl rfl H55 rfl rfl rfl ?_
      refine c_refL H hn HT H55 ?_
      refine wp_go rfl rfl ?_
      refine wp_ret rfl rfl ?_
      rw [sCl, if_pos q8] at hr
      exact kf _ _ hr.symm _ ⟨wc, nc, co, _, _, _, wd, rw_, rfl, H56, H57, by decide⟩ (FA.le (Fr.fa ((Fr.rf (l := [55, 56, 57])).wr rfl)) (by omega) (by omega) (fun _ z => z))
  | some q1, ET, LT1, none, ER, LR1, H55 =>
    refine wp_go rfl rfl ?_
    refine e_get rfl H55 rfl rfl ?_
    refine wp_go rfl rfl ?_
    refine wp_go rfl rfl ?_
    refine wp_call rfl rfl rfl rfl ?_
    refine c_isWithin  (fun q8 => ?_) (fun q8 => ?_)
    · skip
      refine wp_go rfl rfl ?_
      refine wp_go rfl rfl ?_
      refine e_get rfl H55 rfl rfl ?_
      refine wp_go rfl rfl ?_
      refine e_cne rfl (fun c28 => ?_) (fun c28 => ?_)
      · skip
        refine wp_go rfl rfl ?_
        refine e_get rfl H55 rfl rfl ?_
        refine wp_go rfl rfl ?_
        refine e_cne rfl (fun c44 => ?_) (fun c44 => ?_)
        · skip
          refine wp_go rfl rfl ?_
          refine e_get rfl H55 rfl rfl ?_
          refine wp_go rfl rfl ?_
          refine e_clt rfl (fun c68 => ?_) (fun c68 => ?_)
          · skip
            have h4 : ¬ ((tK B n i = 10 ∧ ft.isSome = true) ∨ (tK B n i = 11 ∧ fr.isSome = true)) := by
              rw [EOK_is ET, EOK_is ER]
              simp <;> omega
            rw [sCl, if_neg (fun z => z q8), if_neg h4, if_neg (show ¬ 24 ≤ nc by omega)] at hr
            refine wp_go rfl rfl ?_
            refine wp_go rfl rfl ?_
            refine e_put (fs' := [xR 56, xI (wc : Int), xR 57, xI (nc : Int), xI 0, xR q1, xN, xI lw, xR 51, xI (i : Int), xI (tK B n i), xI 1, xI 0, xI (-1)]) rfl H55 rfl rfl ?_
            refine wp_go rfl rfl ?_
            refine wp_go rfl rfl ?_
            refine e_get rfl rfl rfl rfl ?_
            refine wp_cv rfl rfl rfl rfl rfl rfl rfl ?_
            refine c_put (cl := nc) (co := 0) rfl H57 (by omega) (fun _ _ => ?_) (fun z => absurd (show 5 * nc + 0 < 120 ∧ 0 < 5 by omega) z)
            have hlt := tK_lt H hn (show tK B n i ≠ 0 by omega)
            refine wp_go rfl rfl ?_
            refine e_get rfl rfl rfl rfl ?_
            refine wp_go rfl rfl ?_
            refine e_ceq rfl (fun c99 => ?_) (fun c99 => ?_)
            · skip
              refine wp_go rfl rfl ?_
              refine wp_cv rfl rfl rfl rfl rfl rfl rfl ?_
              have hkl : tK B n i = 10 ∨ tK B n i = 11 := by omega
              obtain ⟨q, hq, hqr⟩ := sP_tot (K := tK B n) (N := tN B n) (law := tK B n i) (fun a ha => tK_big H hn ha) 4000 2 0 v (i + 1) (by decide) (by omega) (by have : rnk 2 = 4 := rfl; omega)
              rw [if_pos (show tK B n i ≤ 11 by omega), hq] at hr
              refine c_law (d := d) H hn hkl hq (by exact h91) (HT.fr (((Fr.rf (l := [55, 56, 57])).wr rfl |>.wr rfl).wr rfl) rfl) rfl H56 (fun j V e h2 qa m wq wx Q1 QA Q2 Q3 Q4 Q5 Q6 Q7 Q8 QF => ?_) (fun fl k e h2 wc2 wx tl2 rb2 Q1 Q2 Q3 Q4 QF => ?_)
              · skip
                subst e
                have G55 := Q6 (by omega)
                have G57 := QF.2.2.2 57 (by show 57 < h.1; omega) rfl
                have GT := TOKH.fa (HT.fr (((Fr.rf (l := [55, 56, 57])).wr rfl |>.wr rfl).wr rfl) rfl) QF h91 rfl
                refine wp_go rfl rfl ?_
                refine wp_go rfl rfl ?_
                refine wp_go rfl rfl ?_
                refine wp_cv rfl rfl rfl G55 rfl rfl rfl ?_
                refine c_expL H hn GT (by omega) G55 (fun z52 => ?_) (fun z52 => ?_)
                · skip
                  refine wp_go rfl rfl ?_
                  refine wp_go rfl rfl ?_
                  refine e_get rfl rfl rfl rfl ?_
                  refine wp_go rfl rfl ?_
                  refine e_iadd rfl (by omega) ?_
                  refine e_put (fs' := [xR 56, xI (m : Int), xR 57, xI ((nc : Int) + 1), xI ((1 : Nat) : Int), xR qa, xN, xI (tK B n i), xR 51, xI ((j + 1 : Nat) : Int), xI (tK B n (j + 1)), xI 1, xI 0, xI (-1)]) rfl rfl rfl rfl ?_
                  refine wp_ret rfl rfl ?_
                  dsimp only at hr
                  rw [if_pos z52, if_pos (show tK B n i = 10 by omega), if_neg (show ¬ tK B n i = 11 by omega)] at hr
                  have hl2 := tK_lt H hn (show tK B n j ≠ 0 by rw [z52]; decide)
                  have Q1q : qa = h.1 := Q1
                  have hqa : qa < h2.1 := QA
                  refine kok _ _ _ hr.symm _ m 1 (some qa) none _ wx (hc_u rw_ (5 * nc + 0) (tK B n i)) rfl Q8 G57 (by omega) (by omega) ?_ ?_ ?_ ?_ ⟨hu_s, fun z => absurd z (by omega), fun z => absurd z (by omega), fun z => absurd z (by omega)⟩ (fun t ht => hu_n (by omega)) (FA.le (c2 := 1) (s2 := 300) (FA.tr (l := [55, 56, 57]) (FA.tr (l := [55, 56, 57]) (Fr.fa (((Fr.rf (l := [55, 56, 57])).wr rfl |>.wr rfl).wr rfl)) QF (fun _ z => z) (nin_sub rfl)) (Fr.fa (((Fr.rf (l := [55, 56, 57])).wr rfl).wr rfl)) (fun _ z => z) (fun _ z => z)) (by omega) (by omega) (fun _ z => z))
                  · exact ⟨by omega, m, wq, (hw_ne (by omega) (hw_ne (by omega) Q2)), Q3, fun nm hnm => by have := Q4 nm hnm; rw [show tK B n i = 10 by omega] at this; exact this⟩
                  · exact ER.fa (FA.le (c2 := 1) (s2 := 300) (FA.tr (l := [55, 56, 57]) (FA.tr (l := [55, 56, 57]) (Fr.fa (((Fr.rf (l := [55, 56, 57])).wr rfl |>.wr rfl).wr rfl)) QF (fun _ z => z) (nin_sub rfl)) (Fr.fa (((Fr.rf (l := [55, 56, 57])).wr rfl).wr rfl)) (fun _ z => z) (fun _ z => z)) (by omega) (by omega) (fun _ z => z)) (by decide) LR1
                  · exact fun a e => by cases e; exact hqa
                  · exact LR1.le QF.1
                · skip
                  refine wp_go rfl rfl ?_
                  refine wp_go rfl rfl ?_
                  refine e_get rfl rfl rfl rfl ?_
                  refine wp_go rfl rfl ?_
                  refine e_iadd rfl (by omega) ?_
                  refine e_put (fs' := [xR 56, xI (m : Int), xR 57, xI ((nc : Int) + 1), xI ((1 : Nat) : Int), xR qa, xN, xI (tK B n i), xR 51, xI (j : Int), xI 2, xI 1, xI 1, xI ((tP B n j : Nat) : Int)]) rfl rfl rfl rfl ?_
                  refine wp_ret rfl rfl ?_
                  dsimp only at hr
                  rw [if_neg z52] at hr
                  exact kf _ _ hr.symm _ ⟨m, nc + 1, 1, _, _, _, wx, _, rfl, Q8, G57, by decide⟩ (FA.le (c2 := 1) (s2 := 300) (FA.tr (l := [55, 56, 57]) (FA.tr (l := [55, 56, 57]) (Fr.fa (((Fr.rf (l := [55, 56, 57])).wr rfl |>.wr rfl).wr rfl)) QF (fun _ z => z) (nin_sub rfl)) (Fr.fa (((Fr.rf (l := [55, 56, 57])).wr rfl).wr rfl)) (fun _ z => z) (fun _ z => z)) (by omega) (by omega) (fun _ z => z))
              · skip
                subst e
                have G57 := QF.2.2.2 57 (by show 57 < h.1; omega) rfl
                refine wp_go rfl rfl ?_
                refine wp_go rfl rfl ?_
                refine wp_go rfl rfl ?_
                refine wp_cv rfl rfl rfl Q3 rfl rfl rfl ?_
                refine c_expS Q3 Q2 (by decide) ?_
                refine wp_go rfl rfl ?_
                refine wp_go rfl rfl ?_
                refine e_get rfl Q3 rfl rfl ?_
                refine wp_go rfl rfl ?_
                refine e_iadd rfl (by omega) ?_
                refine e_put (fs' := [xR 56, xI (wc2 : Int), xR 57, xI ((nc : Int) + 1), xI ((1 : Nat) : Int), tl2, rb2, xI (tK B n i), xR 51, xI (k : Int), xI 2, xI 1, xI fl, xI ((tP B n k : Nat) : Int)]) rfl Q3 rfl rfl ?_
                refine wp_ret rfl rfl ?_
                exact kf _ _ hr.symm _ ⟨wc2, nc + 1, 1, _, _, _, wx, _, rfl, Q4, G57, Q2⟩ (FA.le (c2 := 1) (s2 := 300) (FA.tr (l := [55, 56, 57]) (FA.tr (l := [55, 56, 57]) (Fr.fa (((Fr.rf (l := [55, 56, 57])).wr rfl |>.wr rfl).wr rfl)) QF (fun _ z => z) (nin_sub rfl)) (Fr.fa ((Fr.rf (l := [55, 56, 57])).wr rfl)) (fun _ z => z) (fun _ z => z)) (by omega) (by omega) (fun _ z => z))
            · skip
              refine wp_go rfl rfl ?_
              refine e_get rfl rfl rfl rfl ?_
              refine wp_go rfl rfl ?_
              refine e_cne rfl (fun c108 => ?_) (fun c108 => ?_)
              · skip
                refine wp_go rfl rfl ?_
                refine wp_cv rfl rfl rfl rfl rfl rfl rfl ?_
                rw [if_neg (show ¬ tK B n i ≤ 11 by omega)] at hr
                obtain ⟨q, hq⟩ : ∃ z, sDe (tK B n) (tN B n) i = z := ⟨_, rfl⟩
                rw [hq] at hr
                refine c_deed (d := d + 85) H hn (by omega) hq (by omega) (HT.fr (((Fr.rf (l := [55, 56, 57])).wr rfl |>.wr rfl).wr rfl) rfl) rfl rfl (fun e h2 co2 rw2 Q1 Q2 Q3 Q4 Q5 Q6 Q7 Q8 QF => ?_) (fun fl k e h2 R QF => ?_)
                · skip
                  subst e
                  refine wp_go rfl rfl ?_
                  refine wp_go rfl rfl ?_
                  refine wp_cv rfl rfl rfl Q1 rfl rfl rfl ?_
                  refine c_expL H hn ((HT.fr (((Fr.rf (l := [55, 56, 57])).wr rfl |>.wr rfl).wr rfl) rfl).fr QF rfl) (by omega) Q1 (fun z52 => ?_) (fun z52 => ?_)
                  · skip
                    refine wp_go rfl rfl ?_
                    refine wp_go rfl rfl ?_
                    refine e_get rfl rfl rfl rfl ?_
                    refine wp_go rfl rfl ?_
                    refine e_iadd rfl (by omega) ?_
                    refine e_put (fs' := [xR 56, xI (wc : Int), xR 57, xI ((nc : Int) + 1), xI (co2 : Int), xR q1, xN, xI lw, xR 51, xI ((i + dln (tK B n i) + 1 : Nat) : Int), xI (tK B n (i + dln (tK B n i) + 1)), xI 1, xI 0, xI (-1)]) rfl rfl rfl rfl ?_
                    refine wp_ret rfl rfl ?_
                    dsimp only at hr
                    rw [if_pos z52] at hr
                    have hl2 := tK_lt H hn (show tK B n (i + dln (tK B n i)) ≠ 0 by rw [z52]; decide)
                    have hh1 : h2.1 = h.1 := QF.1
                    refine kok _ _ _ hr.symm _ wc co2 (some q1) none _ wd rw2 rfl ((QF.2.2 56 rfl).trans H56) Q3 (by omega) (by omega) ?_ ?_ ?_ ?_ ⟨(Q8 _ (by omega)).trans hu_s, Q4, fun _ z => Q5 z, fun z => ⟨Q6 (by omega), Q7 (by omega)⟩⟩ (fun t ht => (Q8 t (by omega)).trans (hu_n (by omega))) (FA.le (c2 := 1) (s2 := 300) (FA.tr (l := [55, 56, 57]) (FA.tr (l := [55, 56, 57]) (Fr.fa (((Fr.rf (l := [55, 56, 57])).wr rfl |>.wr rfl).wr rfl)) QF.fa (fun _ z => z) (nin_sub rfl)) (Fr.fa (((Fr.rf (l := [55, 56, 57])).wr rfl).wr rfl)) (fun _ z => z) (fun _ z => z)) (by omega) (by omega) (fun _ z => z))
                    · exact ET.fa (FA.le (c2 := 1) (s2 := 300) (FA.tr (l := [55, 56, 57]) (FA.tr (l := [55, 56, 57]) (Fr.fa (((Fr.rf (l := [55, 56, 57])).wr rfl |>.wr rfl).wr rfl)) QF.fa (fun _ z => z) (nin_sub rfl)) (Fr.fa (((Fr.rf (l := [55, 56, 57])).wr rfl).wr rfl)) (fun _ z => z) (fun _ z => z)) (by omega) (by omega) (fun _ z => z)) (by decide) LT1
                    · exact ER.fa (FA.le (c2 := 1) (s2 := 300) (FA.tr (l := [55, 56, 57]) (FA.tr (l := [55, 56, 57]) (Fr.fa (((Fr.rf (l := [55, 56, 57])).wr rfl |>.wr rfl).wr rfl)) QF.fa (fun _ z => z) (nin_sub rfl)) (Fr.fa (((Fr.rf (l := [55, 56, 57])).wr rfl).wr rfl)) (fun _ z => z) (fun _ z => z)) (by omega) (by omega) (fun _ z => z)) (by decide) LR1
                    · exact LT1.le (Nat.le_of_eq hh1.symm)
                    · exact LR1.le (Nat.le_of_eq hh1.symm)
                  · skip
                    refine wp_go rfl rfl ?_
                    refine wp_go rfl rfl ?_
                    refine e_get rfl rfl rfl rfl ?_
                    refine wp_go rfl rfl ?_
                    refine e_iadd rfl (by omega) ?_
                    refine e_put (fs' := [xR 56, xI (wc : Int), xR 57, xI ((nc : Int) + 1), xI (co2 : Int), xR q1, xN, xI lw, xR 51, xI ((i + dln (tK B n i) : Nat) : Int), xI 2, xI 1, xI 1, xI ((tP B n (i + dln (tK B n i)) : Nat) : Int)]) rfl rfl rfl rfl ?_
                    refine wp_ret rfl rfl ?_
                    dsimp only at hr
                    rw [if_neg z52] at hr
                    exact kf _ _ hr.symm _ ⟨wc, nc + 1, co2, _, _, _, wd, rw2, rfl, (QF.2.2 56 rfl).trans H56, Q3, by decide⟩ (FA.le (c2 := 1) (s2 := 300) (FA.tr (l := [55, 56, 57]) (FA.tr (l := [55, 56, 57]) (Fr.fa (((Fr.rf (l := [55, 56, 57])).wr rfl |>.wr rfl).wr rfl)) QF.fa (fun _ z => z) (nin_sub rfl)) (Fr.fa (((Fr.rf (l := [55, 56, 57])).wr rfl).wr rfl)) (fun _ z => z) (fun _ z => z)) (by omega) (by omega) (fun _ z => z))
                · skip
                  subst e
                  obtain ⟨co2, rq, hw2, G55, G57, hf2⟩ := id R
                  refine wp_go rfl rfl ?_
                  refine wp_go rfl rfl ?_
                  refine wp_cv rfl rfl rfl G55 rfl rfl rfl ?_
                  refine c_expS G55 hf2 (by decide) ?_
                  refine wp_go rfl rfl ?_
                  refine wp_go rfl rfl ?_
                  refine e_get rfl G55 rfl rfl ?_
                  refine wp_go rfl rfl ?_
                  refine e_iadd rfl (by omega) ?_
                  refine e_put (fs' := [xR 56, xI (wc : Int), xR 57, xI ((nc : Int) + 1), xI (co2 : Int), xR q1, xN, xI lw, xR 51, xI (k : Int), xI 2, xI 1, xI fl, xI ((tP B n k : Nat) : Int)]) rfl G55 rfl rfl ?_
                  refine wp_ret rfl rfl ?_
                  exact kf _ _ hr.symm _ ⟨wc, nc + 1, co2, _, _, _, wd, rq, rfl, (QF.2.2 56 rfl).trans H56, G57, hf2⟩ (FA.le (c2 := 1) (s2 := 300) (FA.tr (l := [55, 56, 57]) (FA.tr (l := [55, 56, 57]) (Fr.fa (((Fr.rf (l := [55, 56, 57])).wr rfl |>.wr rfl).wr rfl)) QF.fa (fun _ z => z) (nin_sub rfl)) (Fr.fa ((Fr.rf (l := [55, 56, 57])).wr rfl)) (fun _ z => z) (fun _ z => z)) (by omega) (by omega) (fun _ z => z))
              · skip
                refine wp_go rfl rfl ?_
                refine wp_cv rfl rfl rfl rfl rfl rfl rfl ?_
                have hkl : tK B n i = 10 ∨ tK B n i = 11 := by omega
                obtain ⟨q, hq, hqr⟩ := sP_tot (K := tK B n) (N := tN B n) (law := tK B n i) (fun a ha => tK_big H hn ha) 4000 2 0 v (i + 1) (by decide) (by omega) (by have : rnk 2 = 4 := rfl; omega)
                rw [if_pos (show tK B n i ≤ 11 by omega), hq] at hr
                refine c_law (d := d) H hn hkl hq (by exact h91) (HT.fr (((Fr.rf (l := [55, 56, 57])).wr rfl |>.wr rfl).wr rfl) rfl) rfl H56 (fun j V e h2 qa m wq wx Q1 QA Q2 Q3 Q4 Q5 Q6 Q7 Q8 QF => ?_) (fun fl k e h2 wc2 wx tl2 rb2 Q1 Q2 Q3 Q4 QF => ?_)
                · skip
                  subst e
                  have G55 := Q7 (by omega)
                  have G57 := QF.2.2.2 57 (by show 57 < h.1; omega) rfl
                  have GT := TOKH.fa (HT.fr (((Fr.rf (l := [55, 56, 57])).wr rfl |>.wr rfl).wr rfl) rfl) QF h91 rfl
                  refine wp_go rfl rfl ?_
                  refine wp_go rfl rfl ?_
                  refine wp_go rfl rfl ?_
                  refine wp_cv rfl rfl rfl G55 rfl rfl rfl ?_
                  refine c_expL H hn GT (by omega) G55 (fun z52 => ?_) (fun z52 => ?_)
                  · skip
                    refine wp_go rfl rfl ?_
                    refine wp_go rfl rfl ?_
                    refine e_get rfl rfl rfl rfl ?_
                    refine wp_go rfl rfl ?_
                    refine e_iadd rfl (by omega) ?_
                    refine e_put (fs' := [xR 56, xI (m : Int), xR 57, xI ((nc : Int) + 1), xI ((1 : Nat) : Int), xR q1, xR qa, xI (tK B n i), xR 51, xI ((j + 1 : Nat) : Int), xI (tK B n (j + 1)), xI 1, xI 0, xI (-1)]) rfl rfl rfl rfl ?_
                    refine wp_ret rfl rfl ?_
                    dsimp only at hr
                    rw [if_pos z52, if_neg (show ¬ tK B n i = 10 by omega), if_pos (show tK B n i = 11 by omega)] at hr
                    have hl2 := tK_lt H hn (show tK B n j ≠ 0 by rw [z52]; decide)
                    have Q1q : qa = h.1 := Q1
                    have hqa : qa < h2.1 := QA
                    refine kok _ _ _ hr.symm _ m 1 (some q1) (some qa) _ wx (hc_u rw_ (5 * nc + 0) (tK B n i)) rfl Q8 G57 (by omega) (by omega) ?_ ?_ ?_ ?_ ⟨hu_s, fun z => absurd z (by omega), fun z => absurd z (by omega), fun z => absurd z (by omega)⟩ (fun t ht => hu_n (by omega)) (FA.le (c2 := 1) (s2 := 300) (FA.tr (l := [55, 56, 57]) (FA.tr (l := [55, 56, 57]) (Fr.fa (((Fr.rf (l := [55, 56, 57])).wr rfl |>.wr rfl).wr rfl)) QF (fun _ z => z) (nin_sub rfl)) (Fr.fa (((Fr.rf (l := [55, 56, 57])).wr rfl).wr rfl)) (fun _ z => z) (fun _ z => z)) (by omega) (by omega) (fun _ z => z))
                    · exact ET.fa (FA.le (c2 := 1) (s2 := 300) (FA.tr (l := [55, 56, 57]) (FA.tr (l := [55, 56, 57]) (Fr.fa (((Fr.rf (l := [55, 56, 57])).wr rfl |>.wr rfl).wr rfl)) QF (fun _ z => z) (nin_sub rfl)) (Fr.fa (((Fr.rf (l := [55, 56, 57])).wr rfl).wr rfl)) (fun _ z => z) (fun _ z => z)) (by omega) (by omega) (fun _ z => z)) (by decide) LT1
                    · exact ⟨by omega, m, wq, (hw_ne (by omega) (hw_ne (by omega) Q2)), Q3, fun nm hnm => by have := Q4 nm hnm; rw [show tK B n i = 11 by omega] at this; exact this⟩
                    · exact LT1.le QF.1
                    · exact fun a e => by cases e; exact hqa
                  · skip
                    refine wp_go rfl rfl ?_
                    refine wp_go rfl rfl ?_
                    refine e_get rfl rfl rfl rfl ?_
                    refine wp_go rfl rfl ?_
                    refine e_iadd rfl (by omega) ?_
                    refine e_put (fs' := [xR 56, xI (m : Int), xR 57, xI ((nc : Int) + 1), xI ((1 : Nat) : Int), xR q1, xR qa, xI (tK B n i), xR 51, xI (j : Int), xI 2, xI 1, xI 1, xI ((tP B n j : Nat) : Int)]) rfl rfl rfl rfl ?_
                    refine wp_ret rfl rfl ?_
                    dsimp only at hr
                    rw [if_neg z52] at hr
                    exact kf _ _ hr.symm _ ⟨m, nc + 1, 1, _, _, _, wx, _, rfl, Q8, G57, by decide⟩ (FA.le (c2 := 1) (s2 := 300) (FA.tr (l := [55, 56, 57]) (FA.tr (l := [55, 56, 57]) (Fr.fa (((Fr.rf (l := [55, 56, 57])).wr rfl |>.wr rfl).wr rfl)) QF (fun _ z => z) (nin_sub rfl)) (Fr.fa (((Fr.rf (l := [55, 56, 57])).wr rfl).wr rfl)) (fun _ z => z) (fun _ z => z)) (by omega) (by omega) (fun _ z => z))
                · skip
                  subst e
                  have G57 := QF.2.2.2 57 (by show 57 < h.1; omega) rfl
                  refine wp_go rfl rfl ?_
                  refine wp_go rfl rfl ?_
                  refine wp_go rfl rfl ?_
                  refine wp_cv rfl rfl rfl Q3 rfl rfl rfl ?_
                  refine c_expS Q3 Q2 (by decide) ?_
                  refine wp_go rfl rfl ?_
                  refine wp_go rfl rfl ?_
                  refine e_get rfl Q3 rfl rfl ?_
                  refine wp_go rfl rfl ?_
                  refine e_iadd rfl (by omega) ?_
                  refine e_put (fs' := [xR 56, xI (wc2 : Int), xR 57, xI ((nc : Int) + 1), xI ((1 : Nat) : Int), tl2, rb2, xI (tK B n i), xR 51, xI (k : Int), xI 2, xI 1, xI fl, xI ((tP B n k : Nat) : Int)]) rfl Q3 rfl rfl ?_
                  refine wp_ret rfl rfl ?_
                  exact kf _ _ hr.symm _ ⟨wc2, nc + 1, 1, _, _, _, wx, _, rfl, Q4, G57, Q2⟩ (FA.le (c2 := 1) (s2 := 300) (FA.tr (l := [55, 56, 57]) (FA.tr (l := [55, 56, 57]) (Fr.fa (((Fr.rf (l := [55, 56, 57])).wr rfl |>.wr rfl).wr rfl)) QF (fun _ z => z) (nin_sub rfl)) (Fr.fa ((Fr.rf (l := [55, 56, 57])).wr rfl)) (fun _ z => z) (fun _ z => z)) (by omega) (by omega) (fun _ z => z))
          · skip
            have h4 : ¬ ((tK B n i = 10 ∧ ft.isSome = true) ∨ (tK B n i = 11 ∧ fr.isSome = true)) := by
              rw [EOK_is ET, EOK_is ER]
              simp <;> omega
            refine wp_go rfl rfl ?_
            refine wp_go rfl rfl ?_
            refine wp_cv rfl rfl rfl H55 rfl rfl rfl ?_
            refine c_refL H hn HT H55 ?_
            refine wp_go rfl rfl ?_
            refine wp_ret rfl rfl ?_
            rw [sCl, if_neg (fun z => z q8), if_neg h4, if_pos (show 24 ≤ nc by omega)] at hr
            exact kf _ _ hr.symm _ ⟨wc, nc, co, _, _, _, wd, rw_, rfl, H56, H57, by decide⟩ (FA.le (Fr.fa ((Fr.rf (l := [55, 56, 57])).wr rfl)) (by omega) (by omega) (fun _ z => z))
        · skip
          refine wp_go rfl rfl ?_
          refine e_get rfl H55 rfl rfl ?_
          refine wp_go rfl rfl ?_
          refine wp_go rfl rfl ?_
          refine e_get rfl H55 rfl rfl ?_
          refine wp_go rfl rfl ?_
          refine e_clt rfl (fun c68 => ?_) (fun c68 => ?_)
          · skip
            have h4 : ¬ ((tK B n i = 10 ∧ ft.isSome = true) ∨ (tK B n i = 11 ∧ fr.isSome = true)) := by
              rw [EOK_is ET, EOK_is ER]
              simp <;> omega
            rw [sCl, if_neg (fun z => z q8), if_neg h4, if_neg (show ¬ 24 ≤ nc by omega)] at hr
            refine wp_go rfl rfl ?_
            refine wp_go rfl rfl ?_
            refine e_put (fs' := [xR 56, xI (wc : Int), xR 57, xI (nc : Int), xI 0, xR q1, xN, xI lw, xR 51, xI (i : Int), xI (tK B n i), xI 1, xI 0, xI (-1)]) rfl H55 rfl rfl ?_
            refine wp_go rfl rfl ?_
            refine wp_go rfl rfl ?_
            refine e_get rfl rfl rfl rfl ?_
            refine wp_cv rfl rfl rfl rfl rfl rfl rfl ?_
            refine c_put (cl := nc) (co := 0) rfl H57 (by omega) (fun _ _ => ?_) (fun z => absurd (show 5 * nc + 0 < 120 ∧ 0 < 5 by omega) z)
            have hlt := tK_lt H hn (show tK B n i ≠ 0 by omega)
            refine wp_go rfl rfl ?_
            refine e_get rfl rfl rfl rfl ?_
            refine wp_go rfl rfl ?_
            refine e_ceq rfl (fun c99 => ?_) (fun c99 => ?_)
            · skip
              refine wp_go rfl rfl ?_
              refine wp_cv rfl rfl rfl rfl rfl rfl rfl ?_
              have hkl : tK B n i = 10 ∨ tK B n i = 11 := by omega
              obtain ⟨q, hq, hqr⟩ := sP_tot (K := tK B n) (N := tN B n) (law := tK B n i) (fun a ha => tK_big H hn ha) 4000 2 0 v (i + 1) (by decide) (by omega) (by have : rnk 2 = 4 := rfl; omega)
              rw [if_pos (show tK B n i ≤ 11 by omega), hq] at hr
              refine c_law (d := d) H hn hkl hq (by exact h91) (HT.fr (((Fr.rf (l := [55, 56, 57])).wr rfl |>.wr rfl).wr rfl) rfl) rfl H56 (fun j V e h2 qa m wq wx Q1 QA Q2 Q3 Q4 Q5 Q6 Q7 Q8 QF => ?_) (fun fl k e h2 wc2 wx tl2 rb2 Q1 Q2 Q3 Q4 QF => ?_)
              · skip
                subst e
                have G55 := Q6 (by omega)
                have G57 := QF.2.2.2 57 (by show 57 < h.1; omega) rfl
                have GT := TOKH.fa (HT.fr (((Fr.rf (l := [55, 56, 57])).wr rfl |>.wr rfl).wr rfl) rfl) QF h91 rfl
                refine wp_go rfl rfl ?_
                refine wp_go rfl rfl ?_
                refine wp_go rfl rfl ?_
                refine wp_cv rfl rfl rfl G55 rfl rfl rfl ?_
                refine c_expL H hn GT (by omega) G55 (fun z52 => ?_) (fun z52 => ?_)
                · skip
                  refine wp_go rfl rfl ?_
                  refine wp_go rfl rfl ?_
                  refine e_get rfl rfl rfl rfl ?_
                  refine wp_go rfl rfl ?_
                  refine e_iadd rfl (by omega) ?_
                  refine e_put (fs' := [xR 56, xI (m : Int), xR 57, xI ((nc : Int) + 1), xI ((1 : Nat) : Int), xR qa, xN, xI (tK B n i), xR 51, xI ((j + 1 : Nat) : Int), xI (tK B n (j + 1)), xI 1, xI 0, xI (-1)]) rfl rfl rfl rfl ?_
                  refine wp_ret rfl rfl ?_
                  dsimp only at hr
                  rw [if_pos z52, if_pos (show tK B n i = 10 by omega), if_neg (show ¬ tK B n i = 11 by omega)] at hr
                  have hl2 := tK_lt H hn (show tK B n j ≠ 0 by rw [z52]; decide)
                  have Q1q : qa = h.1 := Q1
                  have hqa : qa < h2.1 := QA
                  refine kok _ _ _ hr.symm _ m 1 (some qa) none _ wx (hc_u rw_ (5 * nc + 0) (tK B n i)) rfl Q8 G57 (by omega) (by omega) ?_ ?_ ?_ ?_ ⟨hu_s, fun z => absurd z (by omega), fun z => absurd z (by omega), fun z => absurd z (by omega)⟩ (fun t ht => hu_n (by omega)) (FA.le (c2 := 1) (s2 := 300) (FA.tr (l := [55, 56, 57]) (FA.tr (l := [55, 56, 57]) (Fr.fa (((Fr.rf (l := [55, 56, 57])).wr rfl |>.wr rfl).wr rfl)) QF (fun _ z => z) (nin_sub rfl)) (Fr.fa (((Fr.rf (l := [55, 56, 57])).wr rfl).wr rfl)) (fun _ z => z) (fun _ z => z)) (by omega) (by omega) (fun _ z => z))
                  · exact ⟨by omega, m, wq, (hw_ne (by omega) (hw_ne (by omega) Q2)), Q3, fun nm hnm => by have := Q4 nm hnm; rw [show tK B n i = 10 by omega] at this; exact this⟩
                  · exact ER.fa (FA.le (c2 := 1) (s2 := 300) (FA.tr (l := [55, 56, 57]) (FA.tr (l := [55, 56, 57]) (Fr.fa (((Fr.rf (l := [55, 56, 57])).wr rfl |>.wr rfl).wr rfl)) QF (fun _ z => z) (nin_sub rfl)) (Fr.fa (((Fr.rf (l := [55, 56, 57])).wr rfl).wr rfl)) (fun _ z => z) (fun _ z => z)) (by omega) (by omega) (fun _ z => z)) (by decide) LR1
                  · exact fun a e => by cases e; exact hqa
                  · exact LR1.le QF.1
                · skip
                  refine wp_go rfl rfl ?_
                  refine wp_go rfl rfl ?_
                  refine e_get rfl rfl rfl rfl ?_
                  refine wp_go rfl rfl ?_
                  refine e_iadd rfl (by omega) ?_
                  refine e_put (fs' := [xR 56, xI (m : Int), xR 57, xI ((nc : Int) + 1), xI ((1 : Nat) : Int), xR qa, xN, xI (tK B n i), xR 51, xI (j : Int), xI 2, xI 1, xI 1, xI ((tP B n j : Nat) : Int)]) rfl rfl rfl rfl ?_
                  refine wp_ret rfl rfl ?_
                  dsimp only at hr
                  rw [if_neg z52] at hr
                  exact kf _ _ hr.symm _ ⟨m, nc + 1, 1, _, _, _, wx, _, rfl, Q8, G57, by decide⟩ (FA.le (c2 := 1) (s2 := 300) (FA.tr (l := [55, 56, 57]) (FA.tr (l := [55, 56, 57]) (Fr.fa (((Fr.rf (l := [55, 56, 57])).wr rfl |>.wr rfl).wr rfl)) QF (fun _ z => z) (nin_sub rfl)) (Fr.fa (((Fr.rf (l := [55, 56, 57])).wr rfl).wr rfl)) (fun _ z => z) (fun _ z => z)) (by omega) (by omega) (fun _ z => z))
              · skip
                subst e
                have G57 := QF.2.2.2 57 (by show 57 < h.1; omega) rfl
                refine wp_go rfl rfl ?_
                refine wp_go rfl rfl ?_
                refine wp_go rfl rfl ?_
                refine wp_cv rfl rfl rfl Q3 rfl rfl rfl ?_
                refine c_expS Q3 Q2 (by decide) ?_
                refine wp_go rfl rfl ?_
                refine wp_go rfl rfl ?_
                refine e_get rfl Q3 rfl rfl ?_
                refine wp_go rfl rfl ?_
                refine e_iadd rfl (by omega) ?_
                refine e_put (fs' := [xR 56, xI (wc2 : Int), xR 57, xI ((nc : Int) + 1), xI ((1 : Nat) : Int), tl2, rb2, xI (tK B n i), xR 51, xI (k : Int), xI 2, xI 1, xI fl, xI ((tP B n k : Nat) : Int)]) rfl Q3 rfl rfl ?_
                refine wp_ret rfl rfl ?_
                exact kf _ _ hr.symm _ ⟨wc2, nc + 1, 1, _, _, _, wx, _, rfl, Q4, G57, Q2⟩ (FA.le (c2 := 1) (s2 := 300) (FA.tr (l := [55, 56, 57]) (FA.tr (l := [55, 56, 57]) (Fr.fa (((Fr.rf (l := [55, 56, 57])).wr rfl |>.wr rfl).wr rfl)) QF (fun _ z => z) (nin_sub rfl)) (Fr.fa ((Fr.rf (l := [55, 56, 57])).wr rfl)) (fun _ z => z) (fun _ z => z)) (by omega) (by omega) (fun _ z => z))
            · skip
              refine wp_go rfl rfl ?_
              refine e_get rfl rfl rfl rfl ?_
              refine wp_go rfl rfl ?_
              refine e_cne rfl (fun c108 => ?_) (fun c108 => ?_)
              · skip
                refine wp_go rfl rfl ?_
                refine wp_cv rfl rfl rfl rfl rfl rfl rfl ?_
                rw [if_neg (show ¬ tK B n i ≤ 11 by omega)] at hr
                obtain ⟨q, hq⟩ : ∃ z, sDe (tK B n) (tN B n) i = z := ⟨_, rfl⟩
                rw [hq] at hr
                refine c_deed (d := d + 85) H hn (by omega) hq (by omega) (HT.fr (((Fr.rf (l := [55, 56, 57])).wr rfl |>.wr rfl).wr rfl) rfl) rfl rfl (fun e h2 co2 rw2 Q1 Q2 Q3 Q4 Q5 Q6 Q7 Q8 QF => ?_) (fun fl k e h2 R QF => ?_)
                · skip
                  subst e
                  refine wp_go rfl rfl ?_
                  refine wp_go rfl rfl ?_
                  refine wp_cv rfl rfl rfl Q1 rfl rfl rfl ?_
                  refine c_expL H hn ((HT.fr (((Fr.rf (l := [55, 56, 57])).wr rfl |>.wr rfl).wr rfl) rfl).fr QF rfl) (by omega) Q1 (fun z52 => ?_) (fun z52 => ?_)
                  · skip
                    refine wp_go rfl rfl ?_
                    refine wp_go rfl rfl ?_
                    refine e_get rfl rfl rfl rfl ?_
                    refine wp_go rfl rfl ?_
                    refine e_iadd rfl (by omega) ?_
                    refine e_put (fs' := [xR 56, xI (wc : Int), xR 57, xI ((nc : Int) + 1), xI (co2 : Int), xR q1, xN, xI lw, xR 51, xI ((i + dln (tK B n i) + 1 : Nat) : Int), xI (tK B n (i + dln (tK B n i) + 1)), xI 1, xI 0, xI (-1)]) rfl rfl rfl rfl ?_
                    refine wp_ret rfl rfl ?_
                    dsimp only at hr
                    rw [if_pos z52] at hr
                    have hl2 := tK_lt H hn (show tK B n (i + dln (tK B n i)) ≠ 0 by rw [z52]; decide)
                    have hh1 : h2.1 = h.1 := QF.1
                    refine kok _ _ _ hr.symm _ wc co2 (some q1) none _ wd rw2 rfl ((QF.2.2 56 rfl).trans H56) Q3 (by omega) (by omega) ?_ ?_ ?_ ?_ ⟨(Q8 _ (by omega)).trans hu_s, Q4, fun _ z => Q5 z, fun z => ⟨Q6 (by omega), Q7 (by omega)⟩⟩ (fun t ht => (Q8 t (by omega)).trans (hu_n (by omega))) (FA.le (c2 := 1) (s2 := 300) (FA.tr (l := [55, 56, 57]) (FA.tr (l := [55, 56, 57]) (Fr.fa (((Fr.rf (l := [55, 56, 57])).wr rfl |>.wr rfl).wr rfl)) QF.fa (fun _ z => z) (nin_sub rfl)) (Fr.fa (((Fr.rf (l := [55, 56, 57])).wr rfl).wr rfl)) (fun _ z => z) (fun _ z => z)) (by omega) (by omega) (fun _ z => z))
                    · exact ET.fa (FA.le (c2 := 1) (s2 := 300) (FA.tr (l := [55, 56, 57]) (FA.tr (l := [55, 56, 57]) (Fr.fa (((Fr.rf (l := [55, 56, 57])).wr rfl |>.wr rfl).wr rfl)) QF.fa (fun _ z => z) (nin_sub rfl)) (Fr.fa (((Fr.rf (l := [55, 56, 57])).wr rfl).wr rfl)) (fun _ z => z) (fun _ z => z)) (by omega) (by omega) (fun _ z => z)) (by decide) LT1
                    · exact ER.fa (FA.le (c2 := 1) (s2 := 300) (FA.tr (l := [55, 56, 57]) (FA.tr (l := [55, 56, 57]) (Fr.fa (((Fr.rf (l := [55, 56, 57])).wr rfl |>.wr rfl).wr rfl)) QF.fa (fun _ z => z) (nin_sub rfl)) (Fr.fa (((Fr.rf (l := [55, 56, 57])).wr rfl).wr rfl)) (fun _ z => z) (fun _ z => z)) (by omega) (by omega) (fun _ z => z)) (by decide) LR1
                    · exact LT1.le (Nat.le_of_eq hh1.symm)
                    · exact LR1.le (Nat.le_of_eq hh1.symm)
                  · skip
                    refine wp_go rfl rfl ?_
                    refine wp_go rfl rfl ?_
                    refine e_get rfl rfl rfl rfl ?_
                    refine wp_go rfl rfl ?_
                    refine e_iadd rfl (by omega) ?_
                    refine e_put (fs' := [xR 56, xI (wc : Int), xR 57, xI ((nc : Int) + 1), xI (co2 : Int), xR q1, xN, xI lw, xR 51, xI ((i + dln (tK B n i) : Nat) : Int), xI 2, xI 1, xI 1, xI ((tP B n (i + dln (tK B n i)) : Nat) : Int)]) rfl rfl rfl rfl ?_
                    refine wp_ret rfl rfl ?_
                    dsimp only at hr
                    rw [if_neg z52] at hr
                    exact kf _ _ hr.symm _ ⟨wc, nc + 1, co2, _, _, _, wd, rw2, rfl, (QF.2.2 56 rfl).trans H56, Q3, by decide⟩ (FA.le (c2 := 1) (s2 := 300) (FA.tr (l := [55, 56, 57]) (FA.tr (l := [55, 56, 57]) (Fr.fa (((Fr.rf (l := [55, 56, 57])).wr rfl |>.wr rfl).wr rfl)) QF.fa (fun _ z => z) (nin_sub rfl)) (Fr.fa (((Fr.rf (l := [55, 56, 57])).wr rfl).wr rfl)) (fun _ z => z) (fun _ z => z)) (by omega) (by omega) (fun _ z => z))
                · skip
                  subst e
                  obtain ⟨co2, rq, hw2, G55, G57, hf2⟩ := id R
                  refine wp_go rfl rfl ?_
                  refine wp_go rfl rfl ?_
                  refine wp_cv rfl rfl rfl G55 rfl rfl rfl ?_
                  refine c_expS G55 hf2 (by decide) ?_
                  refine wp_go rfl rfl ?_
                  refine wp_go rfl rfl ?_
                  refine e_get rfl G55 rfl rfl ?_
                  refine wp_go rfl rfl ?_
                  refine e_iadd rfl (by omega) ?_
                  refine e_put (fs' := [xR 56, xI (wc : Int), xR 57, xI ((nc : Int) + 1), xI (co2 : Int), xR q1, xN, xI lw, xR 51, xI (k : Int), xI 2, xI 1, xI fl, xI ((tP B n k : Nat) : Int)]) rfl G55 rfl rfl ?_
                  refine wp_ret rfl rfl ?_
                  exact kf _ _ hr.symm _ ⟨wc, nc + 1, co2, _, _, _, wd, rq, rfl, (QF.2.2 56 rfl).trans H56, G57, hf2⟩ (FA.le (c2 := 1) (s2 := 300) (FA.tr (l := [55, 56, 57]) (FA.tr (l := [55, 56, 57]) (Fr.fa (((Fr.rf (l := [55, 56, 57])).wr rfl |>.wr rfl).wr rfl)) QF.fa (fun _ z => z) (nin_sub rfl)) (Fr.fa ((Fr.rf (l := [55, 56, 57])).wr rfl)) (fun _ z => z) (fun _ z => z)) (by omega) (by omega) (fun _ z => z))
              · skip
                refine wp_go rfl rfl ?_
                refine wp_cv rfl rfl rfl rfl rfl rfl rfl ?_
                have hkl : tK B n i = 10 ∨ tK B n i = 11 := by omega
                obtain ⟨q, hq, hqr⟩ := sP_tot (K := tK B n) (N := tN B n) (law := tK B n i) (fun a ha => tK_big H hn ha) 4000 2 0 v (i + 1) (by decide) (by omega) (by have : rnk 2 = 4 := rfl; omega)
                rw [if_pos (show tK B n i ≤ 11 by omega), hq] at hr
                refine c_law (d := d) H hn hkl hq (by exact h91) (HT.fr (((Fr.rf (l := [55, 56, 57])).wr rfl |>.wr rfl).wr rfl) rfl) rfl H56 (fun j V e h2 qa m wq wx Q1 QA Q2 Q3 Q4 Q5 Q6 Q7 Q8 QF => ?_) (fun fl k e h2 wc2 wx tl2 rb2 Q1 Q2 Q3 Q4 QF => ?_)
                · skip
                  subst e
                  have G55 := Q7 (by omega)
                  have G57 := QF.2.2.2 57 (by show 57 < h.1; omega) rfl
                  have GT := TOKH.fa (HT.fr (((Fr.rf (l := [55, 56, 57])).wr rfl |>.wr rfl).wr rfl) rfl) QF h91 rfl
                  refine wp_go rfl rfl ?_
                  refine wp_go rfl rfl ?_
                  refine wp_go rfl rfl ?_
                  refine wp_cv rfl rfl rfl G55 rfl rfl rfl ?_
                  refine c_expL H hn GT (by omega) G55 (fun z52 => ?_) (fun z52 => ?_)
                  · skip
                    refine wp_go rfl rfl ?_
                    refine wp_go rfl rfl ?_
                    refine e_get rfl rfl rfl rfl ?_
                    refine wp_go rfl rfl ?_
                    refine e_iadd rfl (by omega) ?_
                    refine e_put (fs' := [xR 56, xI (m : Int), xR 57, xI ((nc : Int) + 1), xI ((1 : Nat) : Int), xR q1, xR qa, xI (tK B n i), xR 51, xI ((j + 1 : Nat) : Int), xI (tK B n (j + 1)), xI 1, xI 0, xI (-1)]) rfl rfl rfl rfl ?_
                    refine wp_ret rfl rfl ?_
                    dsimp only at hr
                    rw [if_pos z52, if_neg (show ¬ tK B n i = 10 by omega), if_pos (show tK B n i = 11 by omega)] at hr
                    have hl2 := tK_lt H hn (show tK B n j ≠ 0 by rw [z52]; decide)
                    have Q1q : qa = h.1 := Q1
                    have hqa : qa < h2.1 := QA
                    refine kok _ _ _ hr.symm _ m 1 (some q1) (some qa) _ wx (hc_u rw_ (5 * nc + 0) (tK B n i)) rfl Q8 G57 (by omega) (by omega) ?_ ?_ ?_ ?_ ⟨hu_s, fun z => absurd z (by omega), fun z => absurd z (by omega), fun z => absurd z (by omega)⟩ (fun t ht => hu_n (by omega)) (FA.le (c2 := 1) (s2 := 300) (FA.tr (l := [55, 56, 57]) (FA.tr (l := [55, 56, 57]) (Fr.fa (((Fr.rf (l := [55, 56, 57])).wr rfl |>.wr rfl).wr rfl)) QF (fun _ z => z) (nin_sub rfl)) (Fr.fa (((Fr.rf (l := [55, 56, 57])).wr rfl).wr rfl)) (fun _ z => z) (fun _ z => z)) (by omega) (by omega) (fun _ z => z))
                    · exact ET.fa (FA.le (c2 := 1) (s2 := 300) (FA.tr (l := [55, 56, 57]) (FA.tr (l := [55, 56, 57]) (Fr.fa (((Fr.rf (l := [55, 56, 57])).wr rfl |>.wr rfl).wr rfl)) QF (fun _ z => z) (nin_sub rfl)) (Fr.fa (((Fr.rf (l := [55, 56, 57])).wr rfl).wr rfl)) (fun _ z => z) (fun _ z => z)) (by omega) (by omega) (fun _ z => z)) (by decide) LT1
                    · exact ⟨by omega, m, wq, (hw_ne (by omega) (hw_ne (by omega) Q2)), Q3, fun nm hnm => by have := Q4 nm hnm; rw [show tK B n i = 11 by omega] at this; exact this⟩
                    · exact LT1.le QF.1
                    · exact fun a e => by cases e; exact hqa
                  · skip
                    refine wp_go rfl rfl ?_
                    refine wp_go rfl rfl ?_
                    refine e_get rfl rfl rfl rfl ?_
                    refine wp_go rfl rfl ?_
                    refine e_iadd rfl (by omega) ?_
                    refine e_put (fs' := [xR 56, xI (m : Int), xR 57, xI ((nc : Int) + 1), xI ((1 : Nat) : Int), xR q1, xR qa, xI (tK B n i), xR 51, xI (j : Int), xI 2, xI 1, xI 1, xI ((tP B n j : Nat) : Int)]) rfl rfl rfl rfl ?_
                    refine wp_ret rfl rfl ?_
                    dsimp only at hr
                    rw [if_neg z52] at hr
                    exact kf _ _ hr.symm _ ⟨m, nc + 1, 1, _, _, _, wx, _, rfl, Q8, G57, by decide⟩ (FA.le (c2 := 1) (s2 := 300) (FA.tr (l := [55, 56, 57]) (FA.tr (l := [55, 56, 57]) (Fr.fa (((Fr.rf (l := [55, 56, 57])).wr rfl |>.wr rfl).wr rfl)) QF (fun _ z => z) (nin_sub rfl)) (Fr.fa (((Fr.rf (l := [55, 56, 57])).wr rfl).wr rfl)) (fun _ z => z) (fun _ z => z)) (by omega) (by omega) (fun _ z => z))
                · skip
                  subst e
                  have G57 := QF.2.2.2 57 (by show 57 < h.1; omega) rfl
                  refine wp_go rfl rfl ?_
                  refine wp_go rfl rfl ?_
                  refine wp_go rfl rfl ?_
                  refine wp_cv rfl rfl rfl Q3 rfl rfl rfl ?_
                  refine c_expS Q3 Q2 (by decide) ?_
                  refine wp_go rfl rfl ?_
                  refine wp_go rfl rfl ?_
                  refine e_get rfl Q3 rfl rfl ?_
                  refine wp_go rfl rfl ?_
                  refine e_iadd rfl (by omega) ?_
                  refine e_put (fs' := [xR 56, xI (wc2 : Int), xR 57, xI ((nc : Int) + 1), xI ((1 : Nat) : Int), tl2, rb2, xI (tK B n i), xR 51, xI (k : Int), xI 2, xI 1, xI fl, xI ((tP B n k : Nat) : Int)]) rfl Q3 rfl rfl ?_
                  refine wp_ret rfl rfl ?_
                  exact kf _ _ hr.symm _ ⟨wc2, nc + 1, 1, _, _, _, wx, _, rfl, Q4, G57, Q2⟩ (FA.le (c2 := 1) (s2 := 300) (FA.tr (l := [55, 56, 57]) (FA.tr (l := [55, 56, 57]) (Fr.fa (((Fr.rf (l := [55, 56, 57])).wr rfl |>.wr rfl).wr rfl)) QF (fun _ z => z) (nin_sub rfl)) (Fr.fa ((Fr.rf (l := [55, 56, 57])).wr rfl)) (fun _ z => z) (fun _ z => z)) (by omega) (by omega) (fun _ z => z))
          · skip
            have h4 : ¬ ((tK B n i = 10 ∧ ft.isSome = true) ∨ (tK B n i = 11 ∧ fr.isSome = true)) := by
              rw [EOK_is ET, EOK_is ER]
              simp <;> omega
            refine wp_go rfl rfl ?_
            refine wp_go rfl rfl ?_
            refine wp_cv rfl rfl rfl H55 rfl rfl rfl ?_
            refine c_refL H hn HT H55 ?_
            refine wp_go rfl rfl ?_
            refine wp_ret rfl rfl ?_
            rw [sCl, if_neg (fun z => z q8), if_neg h4, if_pos (show 24 ≤ nc by omega)] at hr
            exact kf _ _ hr.symm _ ⟨wc, nc, co, _, _, _, wd, rw_, rfl, H56, H57, by decide⟩ (FA.le (Fr.fa ((Fr.rf (l := [55, 56, 57])).wr rfl)) (by omega) (by omega) (fun _ z => z))
      · skip
        refine wp_go rfl rfl ?_
        refine e_get rfl H55 rfl rfl ?_
        refine wp_go rfl rfl ?_
        refine wp_go rfl rfl ?_
        refine wp_go rfl rfl ?_
        refine wp_cv rfl rfl rfl H55 rfl rfl rfl ?_
        refine c_refL H hn HT H55 ?_
        refine wp_go rfl rfl ?_
        refine wp_ret rfl rfl ?_
        rw [sCl, if_neg (fun z => z q8), if_pos (Or.inl ⟨by omega, by rw [EOK_is ET]; rfl⟩)] at hr
        exact kf _ _ hr.symm _ ⟨wc, nc, co, _, _, _, wd, rw_, rfl, H56, H57, by decide⟩ (FA.le (Fr.fa ((Fr.rf (l := [55, 56, 57])).wr rfl)) (by omega) (by omega) (fun _ z => z))
    · skip
      refine wp_go rfl rfl ?_
      refine wp_go rfl rfl ?_
      refine wp_go rfl rfl ?_
      refine wp_cv rfl rfl rfl H55 rfl rfl rfl ?_
      refine c_refL H hn HT H55 ?_
      refine wp_go rfl rfl ?_
      refine wp_ret rfl rfl ?_
      rw [sCl, if_pos q8] at hr
      exact kf _ _ hr.symm _ ⟨wc, nc, co, _, _, _, wd, rw_, rfl, H56, H57, by decide⟩ (FA.le (Fr.fa ((Fr.rf (l := [55, 56, 57])).wr rfl)) (by omega) (by omega) (fun _ z => z))
  | some q1, ET, LT1, some q2, ER, LR1, H55 =>
    refine wp_go rfl rfl ?_
    refine e_get rfl H55 rfl rfl ?_
    refine wp_go rfl rfl ?_
    refine wp_go rfl rfl ?_
    refine wp_call rfl rfl rfl rfl ?_
    refine c_isWithin  (fun q8 => ?_) (fun q8 => ?_)
    · skip
      refine wp_go rfl rfl ?_
      refine wp_go rfl rfl ?_
      refine e_get rfl H55 rfl rfl ?_
      refine wp_go rfl rfl ?_
      refine e_cne rfl (fun c28 => ?_) (fun c28 => ?_)
      · skip
        refine wp_go rfl rfl ?_
        refine e_get rfl H55 rfl rfl ?_
        refine wp_go rfl rfl ?_
        refine e_cne rfl (fun c44 => ?_) (fun c44 => ?_)
        · skip
          refine wp_go rfl rfl ?_
          refine e_get rfl H55 rfl rfl ?_
          refine wp_go rfl rfl ?_
          refine e_clt rfl (fun c68 => ?_) (fun c68 => ?_)
          · skip
            have h4 : ¬ ((tK B n i = 10 ∧ ft.isSome = true) ∨ (tK B n i = 11 ∧ fr.isSome = true)) := by
              rw [EOK_is ET, EOK_is ER]
              simp <;> omega
            rw [sCl, if_neg (fun z => z q8), if_neg h4, if_neg (show ¬ 24 ≤ nc by omega)] at hr
            refine wp_go rfl rfl ?_
            refine wp_go rfl rfl ?_
            refine e_put (fs' := [xR 56, xI (wc : Int), xR 57, xI (nc : Int), xI 0, xR q1, xR q2, xI lw, xR 51, xI (i : Int), xI (tK B n i), xI 1, xI 0, xI (-1)]) rfl H55 rfl rfl ?_
            refine wp_go rfl rfl ?_
            refine wp_go rfl rfl ?_
            refine e_get rfl rfl rfl rfl ?_
            refine wp_cv rfl rfl rfl rfl rfl rfl rfl ?_
            refine c_put (cl := nc) (co := 0) rfl H57 (by omega) (fun _ _ => ?_) (fun z => absurd (show 5 * nc + 0 < 120 ∧ 0 < 5 by omega) z)
            have hlt := tK_lt H hn (show tK B n i ≠ 0 by omega)
            refine wp_go rfl rfl ?_
            refine e_get rfl rfl rfl rfl ?_
            refine wp_go rfl rfl ?_
            refine e_ceq rfl (fun c99 => ?_) (fun c99 => ?_)
            · skip
              refine wp_go rfl rfl ?_
              refine wp_cv rfl rfl rfl rfl rfl rfl rfl ?_
              have hkl : tK B n i = 10 ∨ tK B n i = 11 := by omega
              obtain ⟨q, hq, hqr⟩ := sP_tot (K := tK B n) (N := tN B n) (law := tK B n i) (fun a ha => tK_big H hn ha) 4000 2 0 v (i + 1) (by decide) (by omega) (by have : rnk 2 = 4 := rfl; omega)
              rw [if_pos (show tK B n i ≤ 11 by omega), hq] at hr
              refine c_law (d := d) H hn hkl hq (by exact h91) (HT.fr (((Fr.rf (l := [55, 56, 57])).wr rfl |>.wr rfl).wr rfl) rfl) rfl H56 (fun j V e h2 qa m wq wx Q1 QA Q2 Q3 Q4 Q5 Q6 Q7 Q8 QF => ?_) (fun fl k e h2 wc2 wx tl2 rb2 Q1 Q2 Q3 Q4 QF => ?_)
              · skip
                subst e
                have G55 := Q6 (by omega)
                have G57 := QF.2.2.2 57 (by show 57 < h.1; omega) rfl
                have GT := TOKH.fa (HT.fr (((Fr.rf (l := [55, 56, 57])).wr rfl |>.wr rfl).wr rfl) rfl) QF h91 rfl
                refine wp_go rfl rfl ?_
                refine wp_go rfl rfl ?_
                refine wp_go rfl rfl ?_
                refine wp_cv rfl rfl rfl G55 rfl rfl rfl ?_
                refine c_expL H hn GT (by omega) G55 (fun z52 => ?_) (fun z52 => ?_)
                · skip
                  refine wp_go rfl rfl ?_
                  refine wp_go rfl rfl ?_
                  refine e_get rfl rfl rfl rfl ?_
                  refine wp_go rfl rfl ?_
                  refine e_iadd rfl (by omega) ?_
                  refine e_put (fs' := [xR 56, xI (m : Int), xR 57, xI ((nc : Int) + 1), xI ((1 : Nat) : Int), xR qa, xR q2, xI (tK B n i), xR 51, xI ((j + 1 : Nat) : Int), xI (tK B n (j + 1)), xI 1, xI 0, xI (-1)]) rfl rfl rfl rfl ?_
                  refine wp_ret rfl rfl ?_
                  dsimp only at hr
                  rw [if_pos z52, if_pos (show tK B n i = 10 by omega), if_neg (show ¬ tK B n i = 11 by omega)] at hr
                  have hl2 := tK_lt H hn (show tK B n j ≠ 0 by rw [z52]; decide)
                  have Q1q : qa = h.1 := Q1
                  have hqa : qa < h2.1 := QA
                  refine kok _ _ _ hr.symm _ m 1 (some qa) (some q2) _ wx (hc_u rw_ (5 * nc + 0) (tK B n i)) rfl Q8 G57 (by omega) (by omega) ?_ ?_ ?_ ?_ ⟨hu_s, fun z => absurd z (by omega), fun z => absurd z (by omega), fun z => absurd z (by omega)⟩ (fun t ht => hu_n (by omega)) (FA.le (c2 := 1) (s2 := 300) (FA.tr (l := [55, 56, 57]) (FA.tr (l := [55, 56, 57]) (Fr.fa (((Fr.rf (l := [55, 56, 57])).wr rfl |>.wr rfl).wr rfl)) QF (fun _ z => z) (nin_sub rfl)) (Fr.fa (((Fr.rf (l := [55, 56, 57])).wr rfl).wr rfl)) (fun _ z => z) (fun _ z => z)) (by omega) (by omega) (fun _ z => z))
                  · exact ⟨by omega, m, wq, (hw_ne (by omega) (hw_ne (by omega) Q2)), Q3, fun nm hnm => by have := Q4 nm hnm; rw [show tK B n i = 10 by omega] at this; exact this⟩
                  · exact ER.fa (FA.le (c2 := 1) (s2 := 300) (FA.tr (l := [55, 56, 57]) (FA.tr (l := [55, 56, 57]) (Fr.fa (((Fr.rf (l := [55, 56, 57])).wr rfl |>.wr rfl).wr rfl)) QF (fun _ z => z) (nin_sub rfl)) (Fr.fa (((Fr.rf (l := [55, 56, 57])).wr rfl).wr rfl)) (fun _ z => z) (fun _ z => z)) (by omega) (by omega) (fun _ z => z)) (by decide) LR1
                  · exact fun a e => by cases e; exact hqa
                  · exact LR1.le QF.1
                · skip
                  refine wp_go rfl rfl ?_
                  refine wp_go rfl rfl ?_
                  refine e_get rfl rfl rfl rfl ?_
                  refine wp_go rfl rfl ?_
                  refine e_iadd rfl (by omega) ?_
                  refine e_put (fs' := [xR 56, xI (m : Int), xR 57, xI ((nc : Int) + 1), xI ((1 : Nat) : Int), xR qa, xR q2, xI (tK B n i), xR 51, xI (j : Int), xI 2, xI 1, xI 1, xI ((tP B n j : Nat) : Int)]) rfl rfl rfl rfl ?_
                  refine wp_ret rfl rfl ?_
                  dsimp only at hr
                  rw [if_neg z52] at hr
                  exact kf _ _ hr.symm _ ⟨m, nc + 1, 1, _, _, _, wx, _, rfl, Q8, G57, by decide⟩ (FA.le (c2 := 1) (s2 := 300) (FA.tr (l := [55, 56, 57]) (FA.tr (l := [55, 56, 57]) (Fr.fa (((Fr.rf (l := [55, 56, 57])).wr rfl |>.wr rfl).wr rfl)) QF (fun _ z => z) (nin_sub rfl)) (Fr.fa (((Fr.rf (l := [55, 56, 57])).wr rfl).wr rfl)) (fun _ z => z) (fun _ z => z)) (by omega) (by omega) (fun _ z => z))
              · skip
                subst e
                have G57 := QF.2.2.2 57 (by show 57 < h.1; omega) rfl
                refine wp_go rfl rfl ?_
                refine wp_go rfl rfl ?_
                refine wp_go rfl rfl ?_
                refine wp_cv rfl rfl rfl Q3 rfl rfl rfl ?_
                refine c_expS Q3 Q2 (by decide) ?_
                refine wp_go rfl rfl ?_
                refine wp_go rfl rfl ?_
                refine e_get rfl Q3 rfl rfl ?_
                refine wp_go rfl rfl ?_
                refine e_iadd rfl (by omega) ?_
                refine e_put (fs' := [xR 56, xI (wc2 : Int), xR 57, xI ((nc : Int) + 1), xI ((1 : Nat) : Int), tl2, rb2, xI (tK B n i), xR 51, xI (k : Int), xI 2, xI 1, xI fl, xI ((tP B n k : Nat) : Int)]) rfl Q3 rfl rfl ?_
                refine wp_ret rfl rfl ?_
                exact kf _ _ hr.symm _ ⟨wc2, nc + 1, 1, _, _, _, wx, _, rfl, Q4, G57, Q2⟩ (FA.le (c2 := 1) (s2 := 300) (FA.tr (l := [55, 56, 57]) (FA.tr (l := [55, 56, 57]) (Fr.fa (((Fr.rf (l := [55, 56, 57])).wr rfl |>.wr rfl).wr rfl)) QF (fun _ z => z) (nin_sub rfl)) (Fr.fa ((Fr.rf (l := [55, 56, 57])).wr rfl)) (fun _ z => z) (fun _ z => z)) (by omega) (by omega) (fun _ z => z))
            · skip
              refine wp_go rfl rfl ?_
              refine e_get rfl rfl rfl rfl ?_
              refine wp_go rfl rfl ?_
              refine e_cne rfl (fun c108 => ?_) (fun c108 => ?_)
              · skip
                refine wp_go rfl rfl ?_
                refine wp_cv rfl rfl rfl rfl rfl rfl rfl ?_
                rw [if_neg (show ¬ tK B n i ≤ 11 by omega)] at hr
                obtain ⟨q, hq⟩ : ∃ z, sDe (tK B n) (tN B n) i = z := ⟨_, rfl⟩
                rw [hq] at hr
                refine c_deed (d := d + 85) H hn (by omega) hq (by omega) (HT.fr (((Fr.rf (l := [55, 56, 57])).wr rfl |>.wr rfl).wr rfl) rfl) rfl rfl (fun e h2 co2 rw2 Q1 Q2 Q3 Q4 Q5 Q6 Q7 Q8 QF => ?_) (fun fl k e h2 R QF => ?_)
                · skip
                  subst e
                  refine wp_go rfl rfl ?_
                  refine wp_go rfl rfl ?_
                  refine wp_cv rfl rfl rfl Q1 rfl rfl rfl ?_
                  refine c_expL H hn ((HT.fr (((Fr.rf (l := [55, 56, 57])).wr rfl |>.wr rfl).wr rfl) rfl).fr QF rfl) (by omega) Q1 (fun z52 => ?_) (fun z52 => ?_)
                  · skip
                    refine wp_go rfl rfl ?_
                    refine wp_go rfl rfl ?_
                    refine e_get rfl rfl rfl rfl ?_
                    refine wp_go rfl rfl ?_
                    refine e_iadd rfl (by omega) ?_
                    refine e_put (fs' := [xR 56, xI (wc : Int), xR 57, xI ((nc : Int) + 1), xI (co2 : Int), xR q1, xR q2, xI lw, xR 51, xI ((i + dln (tK B n i) + 1 : Nat) : Int), xI (tK B n (i + dln (tK B n i) + 1)), xI 1, xI 0, xI (-1)]) rfl rfl rfl rfl ?_
                    refine wp_ret rfl rfl ?_
                    dsimp only at hr
                    rw [if_pos z52] at hr
                    have hl2 := tK_lt H hn (show tK B n (i + dln (tK B n i)) ≠ 0 by rw [z52]; decide)
                    have hh1 : h2.1 = h.1 := QF.1
                    refine kok _ _ _ hr.symm _ wc co2 (some q1) (some q2) _ wd rw2 rfl ((QF.2.2 56 rfl).trans H56) Q3 (by omega) (by omega) ?_ ?_ ?_ ?_ ⟨(Q8 _ (by omega)).trans hu_s, Q4, fun _ z => Q5 z, fun z => ⟨Q6 (by omega), Q7 (by omega)⟩⟩ (fun t ht => (Q8 t (by omega)).trans (hu_n (by omega))) (FA.le (c2 := 1) (s2 := 300) (FA.tr (l := [55, 56, 57]) (FA.tr (l := [55, 56, 57]) (Fr.fa (((Fr.rf (l := [55, 56, 57])).wr rfl |>.wr rfl).wr rfl)) QF.fa (fun _ z => z) (nin_sub rfl)) (Fr.fa (((Fr.rf (l := [55, 56, 57])).wr rfl).wr rfl)) (fun _ z => z) (fun _ z => z)) (by omega) (by omega) (fun _ z => z))
                    · exact ET.fa (FA.le (c2 := 1) (s2 := 300) (FA.tr (l := [55, 56, 57]) (FA.tr (l := [55, 56, 57]) (Fr.fa (((Fr.rf (l := [55, 56, 57])).wr rfl |>.wr rfl).wr rfl)) QF.fa (fun _ z => z) (nin_sub rfl)) (Fr.fa (((Fr.rf (l := [55, 56, 57])).wr rfl).wr rfl)) (fun _ z => z) (fun _ z => z)) (by omega) (by omega) (fun _ z => z)) (by decide) LT1
                    · exact ER.fa (FA.le (c2 := 1) (s2 := 300) (FA.tr (l := [55, 56, 57]) (FA.tr (l := [55, 56, 57]) (Fr.fa (((Fr.rf (l := [55, 56, 57])).wr rfl |>.wr rfl).wr rfl)) QF.fa (fun _ z => z) (nin_sub rfl)) (Fr.fa (((Fr.rf (l := [55, 56, 57])).wr rfl).wr rfl)) (fun _ z => z) (fun _ z => z)) (by omega) (by omega) (fun _ z => z)) (by decide) LR1
                    · exact LT1.le (Nat.le_of_eq hh1.symm)
                    · exact LR1.le (Nat.le_of_eq hh1.symm)
                  · skip
                    refine wp_go rfl rfl ?_
                    refine wp_go rfl rfl ?_
                    refine e_get rfl rfl rfl rfl ?_
                    refine wp_go rfl rfl ?_
                    refine e_iadd rfl (by omega) ?_
                    refine e_put (fs' := [xR 56, xI (wc : Int), xR 57, xI ((nc : Int) + 1), xI (co2 : Int), xR q1, xR q2, xI lw, xR 51, xI ((i + dln (tK B n i) : Nat) : Int), xI 2, xI 1, xI 1, xI ((tP B n (i + dln (tK B n i)) : Nat) : Int)]) rfl rfl rfl rfl ?_
                    refine wp_ret rfl rfl ?_
                    dsimp only at hr
                    rw [if_neg z52] at hr
                    exact kf _ _ hr.symm _ ⟨wc, nc + 1, co2, _, _, _, wd, rw2, rfl, (QF.2.2 56 rfl).trans H56, Q3, by decide⟩ (FA.le (c2 := 1) (s2 := 300) (FA.tr (l := [55, 56, 57]) (FA.tr (l := [55, 56, 57]) (Fr.fa (((Fr.rf (l := [55, 56, 57])).wr rfl |>.wr rfl).wr rfl)) QF.fa (fun _ z => z) (nin_sub rfl)) (Fr.fa (((Fr.rf (l := [55, 56, 57])).wr rfl).wr rfl)) (fun _ z => z) (fun _ z => z)) (by omega) (by omega) (fun _ z => z))
                · skip
                  subst e
                  obtain ⟨co2, rq, hw2, G55, G57, hf2⟩ := id R
                  refine wp_go rfl rfl ?_
                  refine wp_go rfl rfl ?_
                  refine wp_cv rfl rfl rfl G55 rfl rfl rfl ?_
                  refine c_expS G55 hf2 (by decide) ?_
                  refine wp_go rfl rfl ?_
                  refine wp_go rfl rfl ?_
                  refine e_get rfl G55 rfl rfl ?_
                  refine wp_go rfl rfl ?_
                  refine e_iadd rfl (by omega) ?_
                  refine e_put (fs' := [xR 56, xI (wc : Int), xR 57, xI ((nc : Int) + 1), xI (co2 : Int), xR q1, xR q2, xI lw, xR 51, xI (k : Int), xI 2, xI 1, xI fl, xI ((tP B n k : Nat) : Int)]) rfl G55 rfl rfl ?_
                  refine wp_ret rfl rfl ?_
                  exact kf _ _ hr.symm _ ⟨wc, nc + 1, co2, _, _, _, wd, rq, rfl, (QF.2.2 56 rfl).trans H56, G57, hf2⟩ (FA.le (c2 := 1) (s2 := 300) (FA.tr (l := [55, 56, 57]) (FA.tr (l := [55, 56, 57]) (Fr.fa (((Fr.rf (l := [55, 56, 57])).wr rfl |>.wr rfl).wr rfl)) QF.fa (fun _ z => z) (nin_sub rfl)) (Fr.fa ((Fr.rf (l := [55, 56, 57])).wr rfl)) (fun _ z => z) (fun _ z => z)) (by omega) (by omega) (fun _ z => z))
              · skip
                refine wp_go rfl rfl ?_
                refine wp_cv rfl rfl rfl rfl rfl rfl rfl ?_
                have hkl : tK B n i = 10 ∨ tK B n i = 11 := by omega
                obtain ⟨q, hq, hqr⟩ := sP_tot (K := tK B n) (N := tN B n) (law := tK B n i) (fun a ha => tK_big H hn ha) 4000 2 0 v (i + 1) (by decide) (by omega) (by have : rnk 2 = 4 := rfl; omega)
                rw [if_pos (show tK B n i ≤ 11 by omega), hq] at hr
                refine c_law (d := d) H hn hkl hq (by exact h91) (HT.fr (((Fr.rf (l := [55, 56, 57])).wr rfl |>.wr rfl).wr rfl) rfl) rfl H56 (fun j V e h2 qa m wq wx Q1 QA Q2 Q3 Q4 Q5 Q6 Q7 Q8 QF => ?_) (fun fl k e h2 wc2 wx tl2 rb2 Q1 Q2 Q3 Q4 QF => ?_)
                · skip
                  subst e
                  have G55 := Q7 (by omega)
                  have G57 := QF.2.2.2 57 (by show 57 < h.1; omega) rfl
                  have GT := TOKH.fa (HT.fr (((Fr.rf (l := [55, 56, 57])).wr rfl |>.wr rfl).wr rfl) rfl) QF h91 rfl
                  refine wp_go rfl rfl ?_
                  refine wp_go rfl rfl ?_
                  refine wp_go rfl rfl ?_
                  refine wp_cv rfl rfl rfl G55 rfl rfl rfl ?_
                  refine c_expL H hn GT (by omega) G55 (fun z52 => ?_) (fun z52 => ?_)
                  · skip
                    refine wp_go rfl rfl ?_
                    refine wp_go rfl rfl ?_
                    refine e_get rfl rfl rfl rfl ?_
                    refine wp_go rfl rfl ?_
                    refine e_iadd rfl (by omega) ?_
                    refine e_put (fs' := [xR 56, xI (m : Int), xR 57, xI ((nc : Int) + 1), xI ((1 : Nat) : Int), xR q1, xR qa, xI (tK B n i), xR 51, xI ((j + 1 : Nat) : Int), xI (tK B n (j + 1)), xI 1, xI 0, xI (-1)]) rfl rfl rfl rfl ?_
                    refine wp_ret rfl rfl ?_
                    dsimp only at hr
                    rw [if_pos z52, if_neg (show ¬ tK B n i = 10 by omega), if_pos (show tK B n i = 11 by omega)] at hr
                    have hl2 := tK_lt H hn (show tK B n j ≠ 0 by rw [z52]; decide)
                    have Q1q : qa = h.1 := Q1
                    have hqa : qa < h2.1 := QA
                    refine kok _ _ _ hr.symm _ m 1 (some q1) (some qa) _ wx (hc_u rw_ (5 * nc + 0) (tK B n i)) rfl Q8 G57 (by omega) (by omega) ?_ ?_ ?_ ?_ ⟨hu_s, fun z => absurd z (by omega), fun z => absurd z (by omega), fun z => absurd z (by omega)⟩ (fun t ht => hu_n (by omega)) (FA.le (c2 := 1) (s2 := 300) (FA.tr (l := [55, 56, 57]) (FA.tr (l := [55, 56, 57]) (Fr.fa (((Fr.rf (l := [55, 56, 57])).wr rfl |>.wr rfl).wr rfl)) QF (fun _ z => z) (nin_sub rfl)) (Fr.fa (((Fr.rf (l := [55, 56, 57])).wr rfl).wr rfl)) (fun _ z => z) (fun _ z => z)) (by omega) (by omega) (fun _ z => z))
                    · exact ET.fa (FA.le (c2 := 1) (s2 := 300) (FA.tr (l := [55, 56, 57]) (FA.tr (l := [55, 56, 57]) (Fr.fa (((Fr.rf (l := [55, 56, 57])).wr rfl |>.wr rfl).wr rfl)) QF (fun _ z => z) (nin_sub rfl)) (Fr.fa (((Fr.rf (l := [55, 56, 57])).wr rfl).wr rfl)) (fun _ z => z) (fun _ z => z)) (by omega) (by omega) (fun _ z => z)) (by decide) LT1
                    · exact ⟨by omega, m, wq, (hw_ne (by omega) (hw_ne (by omega) Q2)), Q3, fun nm hnm => by have := Q4 nm hnm; rw [show tK B n i = 11 by omega] at this; exact this⟩
                    · exact LT1.le QF.1
                    · exact fun a e => by cases e; exact hqa
                  · skip
                    refine wp_go rfl rfl ?_
                    refine wp_go rfl rfl ?_
                    refine e_get rfl rfl rfl rfl ?_
                    refine wp_go rfl rfl ?_
                    refine e_iadd rfl (by omega) ?_
                    refine e_put (fs' := [xR 56, xI (m : Int), xR 57, xI ((nc : Int) + 1), xI ((1 : Nat) : Int), xR q1, xR qa, xI (tK B n i), xR 51, xI (j : Int), xI 2, xI 1, xI 1, xI ((tP B n j : Nat) : Int)]) rfl rfl rfl rfl ?_
                    refine wp_ret rfl rfl ?_
                    dsimp only at hr
                    rw [if_neg z52] at hr
                    exact kf _ _ hr.symm _ ⟨m, nc + 1, 1, _, _, _, wx, _, rfl, Q8, G57, by decide⟩ (FA.le (c2 := 1) (s2 := 300) (FA.tr (l := [55, 56, 57]) (FA.tr (l := [55, 56, 57]) (Fr.fa (((Fr.rf (l := [55, 56, 57])).wr rfl |>.wr rfl).wr rfl)) QF (fun _ z => z) (nin_sub rfl)) (Fr.fa (((Fr.rf (l := [55, 56, 57])).wr rfl).wr rfl)) (fun _ z => z) (fun _ z => z)) (by omega) (by omega) (fun _ z => z))
                · skip
                  subst e
                  have G57 := QF.2.2.2 57 (by show 57 < h.1; omega) rfl
                  refine wp_go rfl rfl ?_
                  refine wp_go rfl rfl ?_
                  refine wp_go rfl rfl ?_
                  refine wp_cv rfl rfl rfl Q3 rfl rfl rfl ?_
                  refine c_expS Q3 Q2 (by decide) ?_
                  refine wp_go rfl rfl ?_
                  refine wp_go rfl rfl ?_
                  refine e_get rfl Q3 rfl rfl ?_
                  refine wp_go rfl rfl ?_
                  refine e_iadd rfl (by omega) ?_
                  refine e_put (fs' := [xR 56, xI (wc2 : Int), xR 57, xI ((nc : Int) + 1), xI ((1 : Nat) : Int), tl2, rb2, xI (tK B n i), xR 51, xI (k : Int), xI 2, xI 1, xI fl, xI ((tP B n k : Nat) : Int)]) rfl Q3 rfl rfl ?_
                  refine wp_ret rfl rfl ?_
                  exact kf _ _ hr.symm _ ⟨wc2, nc + 1, 1, _, _, _, wx, _, rfl, Q4, G57, Q2⟩ (FA.le (c2 := 1) (s2 := 300) (FA.tr (l := [55, 56, 57]) (FA.tr (l := [55, 56, 57]) (Fr.fa (((Fr.rf (l := [55, 56, 57])).wr rfl |>.wr rfl).wr rfl)) QF (fun _ z => z) (nin_sub rfl)) (Fr.fa ((Fr.rf (l := [55, 56, 57])).wr rfl)) (fun _ z => z) (fun _ z => z)) (by omega) (by omega) (fun _ z => z))
          · skip
            have h4 : ¬ ((tK B n i = 10 ∧ ft.isSome = true) ∨ (tK B n i = 11 ∧ fr.isSome = true)) := by
              rw [EOK_is ET, EOK_is ER]
              simp <;> omega
            refine wp_go rfl rfl ?_
            refine wp_go rfl rfl ?_
            refine wp_cv rfl rfl rfl H55 rfl rfl rfl ?_
            refine c_refL H hn HT H55 ?_
            refine wp_go rfl rfl ?_
            refine wp_ret rfl rfl ?_
            rw [sCl, if_neg (fun z => z q8), if_neg h4, if_pos (show 24 ≤ nc by omega)] at hr
            exact kf _ _ hr.symm _ ⟨wc, nc, co, _, _, _, wd, rw_, rfl, H56, H57, by decide⟩ (FA.le (Fr.fa ((Fr.rf (l := [55, 56, 57])).wr rfl)) (by omega) (by omega) (fun _ z => z))
        · skip
          refine wp_go rfl rfl ?_
          refine e_get rfl H55 rfl rfl ?_
          refine wp_go rfl rfl ?_
          refine wp_go rfl rfl ?_
          refine wp_go rfl rfl ?_
          refine wp_cv rfl rfl rfl H55 rfl rfl rfl ?_
          refine c_refL H hn HT H55 ?_
          refine wp_go rfl rfl ?_
          refine wp_ret rfl rfl ?_
          rw [sCl, if_neg (fun z => z q8), if_pos (Or.inr ⟨by omega, by rw [EOK_is ER]; rfl⟩)] at hr
          exact kf _ _ hr.symm _ ⟨wc, nc, co, _, _, _, wd, rw_, rfl, H56, H57, by decide⟩ (FA.le (Fr.fa ((Fr.rf (l := [55, 56, 57])).wr rfl)) (by omega) (by omega) (fun _ z => z))
      · skip
        refine wp_go rfl rfl ?_
        refine e_get rfl H55 rfl rfl ?_
        refine wp_go rfl rfl ?_
        refine wp_go rfl rfl ?_
        refine wp_go rfl rfl ?_
        refine wp_cv rfl rfl rfl H55 rfl rfl rfl ?_
        refine c_refL H hn HT H55 ?_
        refine wp_go rfl rfl ?_
        refine wp_ret rfl rfl ?_
        rw [sCl, if_neg (fun z => z q8), if_pos (Or.inl ⟨by omega, by rw [EOK_is ET]; rfl⟩)] at hr
        exact kf _ _ hr.symm _ ⟨wc, nc, co, _, _, _, wd, rw_, rfl, H56, H57, by decide⟩ (FA.le (Fr.fa ((Fr.rf (l := [55, 56, 57])).wr rfl)) (by omega) (by omega) (fun _ z => z))
    · skip
      refine wp_go rfl rfl ?_
      refine wp_go rfl rfl ?_
      refine wp_go rfl rfl ?_
      refine wp_cv rfl rfl rfl H55 rfl rfl rfl ?_
      refine c_refL H hn HT H55 ?_
      refine wp_go rfl rfl ?_
      refine wp_ret rfl rfl ?_
      rw [sCl, if_pos q8] at hr
      exact kf _ _ hr.symm _ ⟨wc, nc, co, _, _, _, wd, rw_, rfl, H56, H57, by decide⟩ (FA.le (Fr.fa ((Fr.rf (l := [55, 56, 57])).wr rfl)) (by omega) (by omega) (fun _ z => z))
set_option maxRecDepth 100000 in
theorem c_clauseS {d : Nat} {h : hc_H} {Q : List hc_V → hc_H → Prop} {fl pl : Int} {kk : Nat} (R : ST h fl pl kk) (k : Q [] h) : hc_wp (d + 2) mX3_readClause 0 [xR 55] [] h Q := by
  obtain ⟨wc, cl, co, tl, rb, lw, wd, rw_, H55, H56, H57, hf⟩ := id R
  refine wp_go rfl rfl ?_
  refine e_get rfl H55 rfl rfl ?_
  refine wp_go rfl rfl ?_
  refine wp_go rfl rfl ?_
  refine wp_call rfl rfl rfl rfl ?_
  refine c_isWithin (fun q => absurd q (by omega)) (fun q => ?_)
  refine wp_go rfl rfl ?_
  refine wp_go rfl rfl ?_
  refine wp_go rfl rfl ?_
  refine wp_cv rfl rfl rfl H55 rfl rfl rfl ?_
  refine c_refS H55 hf ?_
  refine wp_go rfl rfl ?_
  refine wp_ret rfl rfl ?_
  exact k
