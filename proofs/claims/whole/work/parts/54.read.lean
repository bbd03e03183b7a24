/-! the class: Reader, first part: its small steps -/
abbrev rdo (wc cl co : Int) (tl rb : hc_V) (lw a kd fo pl : Int) : hc_E := .inr (3, [xR 56, xI wc, xR 57, xI cl, xI co, tl, rb, xI lw, xR 51, xI a, xI kd, xI 1, xI fo, xI pl])
theorem TOKH.fr {h h2 : hc_H} {B : Nat → Int} {n : Nat} {l : List Nat} (H : TOKH h B n) (F : Fr l h h2) (hl : (nin l 51 && nin l 52 && nin l 53 && nin l 54) = true) : TOKH h2 B n := by
  obtain ⟨c, bh, ks, ps, ns, a1, a2, a3, a4, r⟩ := H
  simp only [Bool.and_eq_true] at hl
  exact ⟨c, bh, ks, ps, ns, (F.2.2 51 hl.1.1.1).trans a1, (F.2.2 52 hl.1.1.2).trans a2, (F.2.2 53 hl.1.2).trans a3, (F.2.2 54 hl.2).trans a4, r⟩
theorem TOKH.w5 {h : hc_H} {B : Nat → Int} {n : Nat} {v : hc_E} (H : TOKH h B n) : TOKH (hc_wr h 55 v) B n := H.fr ((Fr.rf (l := [55])).wr rfl) rfl
theorem tN_0 {B : Nat → Int} {n i : Nat} (h : tP B n i = n) : tN B n i = 0 := by
  unfold tN tkn
  rw [h, if_neg]
  unfold bt
  rw [if_neg (by omega)]
  decide
theorem tK_2 {B : Nat → Int} {n i : Nat} : tK B n i ≠ 2 := by have := tK_bd (B := B) (n := n) (i := i); omega
section TK
variable {d : Nat} {h : hc_H} {Q : List hc_V → hc_H → Prop} {B : Nat → Int} {n i : Nat}
theorem c_kindT (H : BY B) (hn : n ≤ 300) (HT : TOKH h B n) (k : Q [xI (tK B n i)] h) : hc_wp d mX6_kindAt 0 [xR 51, xI (i : Int)] [] h Q := by
  obtain ⟨c, bh, ks, ps, ns, a1, a2, a3, a4, b1, b2, b3, b4⟩ := HT
  refine c_kindAt a1 a2 b2 (fun z => ?_) (fun z => ?_)
  · rw [(b4 i z).1]; exact k
  · rw [(tK_0m H hn b3 i (by omega)).1] at k; exact k
theorem c_placeT (H : BY B) (hn : n ≤ 300) (HT : TOKH h B n) (k : Q [xI ((tP B n i : Nat) : Int)] h) : hc_wp d mX6_placeAt 0 [xR 51, xI (i : Int)] [] h Q := by
  obtain ⟨c, bh, ks, ps, ns, a1, a2, a3, a4, b1, b2, b3, b4⟩ := HT
  refine c_placeAt a1 a3 b2 (fun z => ?_) (fun z => ?_)
  · rw [(b4 i z).2.1]; exact k
  · rw [(tK_0m H hn b3 i (by omega)).2] at k; exact k
theorem c_numT (H : BY B) (hn : n ≤ 300) (HT : TOKH h B n) (k : Q [xI (tN B n i)] h) : hc_wp d mX6_numberAt 0 [xR 51, xI (i : Int)] [] h Q := by
  obtain ⟨c, bh, ks, ps, ns, a1, a2, a3, a4, b1, b2, b3, b4⟩ := HT
  refine c_numberAt a1 a4 b2 (fun z => ?_) (fun z => ?_)
  · rw [(b4 i z).2.2]; exact k
  · rw [tN_0 (tK_0m H hn b3 i (by omega)).2] at k; exact k
end TK
set_option maxRecDepth 100000 in
theorem c_advL {d : Nat} {h : hc_H} {Q : List hc_V → hc_H → Prop} {B : Nat → Int} {n i : Nat} {wc cl co lw pl : Int} {tl rb : hc_V} (H : BY B) (hn : n ≤ 300) (HT : TOKH h B n) (hi : i ≤ 1000) (H55 : h.2.2 55 = rdo wc cl co tl rb lw (i : Int) (tK B n i) 0 pl) (k : Q [] (hc_wr h 55 (rdo wc cl co tl rb lw ((i + 1 : Nat) : Int) (tK B n (i + 1)) 0 pl))) : hc_wp (d + 1) mX3_advance 0 [xR 55] [] h Q := by
  obtain ⟨c51, bh51, ks51, ps51, ns51, H51, rest51⟩ := id HT
  refine wp_go rfl rfl ?_
  refine e_get rfl H55 rfl rfl ?_
  refine wp_go rfl rfl ?_
  refine e_ceq rfl (fun c5 => absurd c5 tK_2) (fun c5 => ?_)
  refine wp_go rfl rfl ?_
  refine e_get rfl H55 rfl rfl ?_
  refine wp_go rfl rfl ?_
  refine wp_go rfl rfl ?_
  refine wp_go rfl rfl ?_
  refine e_get rfl H55 rfl rfl ?_
  refine wp_go rfl rfl ?_
  refine e_iadd rfl (by omega) ?_
  refine e_put (fs' := [xR 56, xI wc, xR 57, xI cl, xI co, tl, rb, xI lw, xR 51, xI ((i : Int) + 1), xI (tK B n i), xI 1, xI 0, xI pl]) rfl H55 rfl rfl ?_
  refine wp_go rfl rfl ?_
  refine wp_go rfl rfl ?_
  refine e_get rfl rfl rfl rfl ?_
  refine wp_go rfl rfl ?_
  refine e_get rfl rfl rfl rfl ?_
  rw [show ((i : Int) + 1) = ((i + 1 : Nat) : Int) by omega]
  refine wp_cv rfl rfl rfl H51 rfl rfl rfl ?_
  refine c_kindT (i := i + 1) H hn HT.w5 ?_
  refine e_put (fs' := [xR 56, xI wc, xR 57, xI cl, xI co, tl, rb, xI lw, xR 51, xI ((i : Int) + 1), xI (tK B n (i + 1)), xI 1, xI 0, xI pl]) rfl rfl rfl rfl ?_
  refine wp_ret rfl rfl ?_
  rw [hw_2]
  exact k
set_option maxRecDepth 100000 in
theorem c_advS {d : Nat} {h : hc_H} {Q : List hc_V → hc_H → Prop} {i : Nat} {wc cl co lw pl fo : Int} {tl rb : hc_V} (H55 : h.2.2 55 = rdo wc cl co tl rb lw (i : Int) 2 fo pl) (hfo : fo ≠ 0) (k : Q [] h) : hc_wp (d + 1) mX3_advance 0 [xR 55] [] h Q := by
  refine wp_go rfl rfl ?_
  refine e_get rfl H55 rfl rfl ?_
  refine wp_go rfl rfl ?_
  refine wp_go rfl rfl ?_
  refine wp_ret rfl rfl ?_
  exact k
set_option maxRecDepth 100000 in
theorem c_refL {d : Nat} {h : hc_H} {Q : List hc_V → hc_H → Prop} {B : Nat → Int} {n i : Nat} {wc cl co lw pl : Int} {tl rb : hc_V} {fl : Int} (H : BY B) (hn : n ≤ 300) (HT : TOKH h B n) (H55 : h.2.2 55 = rdo wc cl co tl rb lw (i : Int) (tK B n i) 0 pl) (k : Q [] (hc_wr h 55 (rdo wc cl co tl rb lw (i : Int) 2 fl ((tP B n i : Nat) : Int)))) : hc_wp (d + 1) mX3_refuse 0 [xR 55, xI fl] [] h Q := by
  obtain ⟨c51, bh51, ks51, ps51, ns51, H51, rest51⟩ := id HT
  refine wp_go rfl rfl ?_
  refine e_get rfl H55 rfl rfl ?_
  refine wp_go rfl rfl ?_
  refine wp_go rfl rfl ?_
  refine e_get rfl H55 rfl rfl ?_
  refine wp_go rfl rfl ?_
  refine wp_go rfl rfl ?_
  refine wp_go rfl rfl ?_
  refine e_put (fs' := [xR 56, xI wc, xR 57, xI cl, xI co, tl, rb, xI lw, xR 51, xI (i : Int), xI (tK B n i), xI 1, xI fl, xI pl]) rfl H55 rfl rfl ?_
  refine wp_go rfl rfl ?_
  refine wp_go rfl rfl ?_
  refine e_get rfl rfl rfl rfl ?_
  refine wp_go rfl rfl ?_
  refine e_get rfl rfl rfl rfl ?_
  refine wp_cv rfl rfl rfl H51 rfl rfl rfl ?_
  refine c_placeT (i := i) H hn HT.w5 ?_
  refine e_put (fs' := [xR 56, xI wc, xR 57, xI cl, xI co, tl, rb, xI lw, xR 51, xI (i : Int), xI (tK B n i), xI 1, xI fl, xI ((tP B n i : Nat) : Int)]) rfl rfl rfl rfl ?_
  refine wp_go rfl rfl ?_
  refine wp_go rfl rfl ?_
  refine e_put (fs' := [xR 56, xI wc, xR 57, xI cl, xI co, tl, rb, xI lw, xR 51, xI (i : Int), xI 2, xI 1, xI fl, xI ((tP B n i : Nat) : Int)]) rfl rfl rfl rfl ?_
  refine wp_ret rfl rfl ?_
  rw [hw_2, hw_2]
  exact k
set_option maxRecDepth 100000 in
theorem c_refS {d : Nat} {h : hc_H} {Q : List hc_V → hc_H → Prop} {i : Nat} {wc cl co lw pl fo fl : Int} {tl rb : hc_V} (H55 : h.2.2 55 = rdo wc cl co tl rb lw (i : Int) 2 fo pl) (hfo : fo ≠ 0) (k : Q [] h) : hc_wp (d + 1) mX3_refuse 0 [xR 55, xI fl] [] h Q := by
  refine wp_go rfl rfl ?_
  refine e_get rfl H55 rfl rfl ?_
  refine e_ifne rfl (fun c4 => ?_) (fun c4 => absurd c4 hfo)
  refine wp_ret rfl rfl ?_
  exact k
set_option maxRecDepth 100000 in
theorem c_expL {d : Nat} {h : hc_H} {Q : List hc_V → hc_H → Prop} {B : Nat → Int} {n i : Nat} {wc cl co lw pl : Int} {tl rb : hc_V} {due : Int} (H : BY B) (hn : n ≤ 300) (HT : TOKH h B n) (hi : i ≤ 1000) (H55 : h.2.2 55 = rdo wc cl co tl rb lw (i : Int) (tK B n i) 0 pl) (ky : tK B n i = due → Q [] (hc_wr h 55 (rdo wc cl co tl rb lw ((i + 1 : Nat) : Int) (tK B n (i + 1)) 0 pl))) (kn : ¬ tK B n i = due → Q [] (hc_wr h 55 (rdo wc cl co tl rb lw (i : Int) 2 1 ((tP B n i : Nat) : Int)))) : hc_wp (d + 2) mX3_expect 0 [xR 55, xI due] [] h Q := by
  refine wp_go rfl rfl ?_
  refine e_get rfl H55 rfl rfl ?_
  refine wp_go rfl rfl ?_
  refine e_cne rfl (fun c5 => ?_) (fun c5 => ?_)
  · skip
    refine wp_go rfl rfl ?_
    refine wp_go rfl rfl ?_
    refine wp_cv rfl rfl rfl H55 rfl rfl rfl ?_
    refine c_refL (d := d) H hn HT H55 ?_
    refine wp_ret rfl rfl ?_
    exact kn c5
  · skip
    refine wp_go rfl rfl ?_
    refine wp_cv rfl rfl rfl H55 rfl rfl rfl ?_
    refine c_advL (d := d) H hn HT hi H55 ?_
    refine wp_go rfl rfl ?_
    refine wp_ret rfl rfl ?_
    exact ky c5
set_option maxRecDepth 100000 in
theorem c_expS {d : Nat} {h : hc_H} {Q : List hc_V → hc_H → Prop} {i : Nat} {wc cl co lw pl fo due : Int} {tl rb : hc_V} (H55 : h.2.2 55 = rdo wc cl co tl rb lw (i : Int) 2 fo pl) (hfo : fo ≠ 0) (hd : ¬ (2 : Int) = due) (k : Q [] h) : hc_wp (d + 2) mX3_expect 0 [xR 55, xI due] [] h Q := by
  refine wp_go rfl rfl ?_
  refine e_get rfl H55 rfl rfl ?_
  refine wp_go rfl rfl ?_
  refine e_cne rfl (fun c5 => ?_) (fun c5 => absurd c5 hd)
  refine wp_go rfl rfl ?_
  refine wp_go rfl rfl ?_
  refine wp_cv rfl rfl rfl H55 rfl rfl rfl ?_
  refine c_refS (d := d) H55 hfo ?_
  refine wp_ret rfl rfl ?_
  exact k
set_option maxRecDepth 100000 in
theorem c_say {d : Nat} {h : hc_H} {Q : List hc_V → hc_H → Prop} {a kd fo pl cl co lw wt nb : Int} {wc : Nat} {tl rb : hc_V} {wd : Nat → Int} (H55 : h.2.2 55 = rdo (wc : Int) cl co tl rb lw a kd fo pl) (H56 : h.2.2 56 = ar 300 wd) (hw : wc ≤ 300) (hb : 0 ≤ nb ∧ nb ≤ 100000 ∧ 0 ≤ wt ∧ wt ≤ 63) (ky : wc < 300 → Q [] (hc_wr (hc_wr h 56 (ar 300 (hc_u wd wc (nb * 64 + wt)))) 55 (rdo ((wc + 1 : Nat) : Int) cl co tl rb lw a kd fo pl))) (kn : wc = 300 → Q [] h) : hc_wp (d + 1) mX3_say 0 [xR 55, xI wt, xI nb] [] h Q := by
  refine wp_go rfl rfl ?_
  refine e_get rfl H55 rfl rfl ?_
  refine e_iflt rfl (fun c4 => absurd c4 (by omega)) (fun c4 => ?_)
  refine wp_go rfl rfl ?_
  refine e_get rfl H55 rfl rfl ?_
  refine wp_go rfl rfl ?_
  refine e_get rfl H55 rfl rfl ?_
  refine e_alen rfl H56 rfl (by decide) ?_
  refine e_cge rfl (fun c16 => ?_) (fun c16 => ?_)
  · skip
    refine wp_ret rfl rfl ?_
    exact kn (by omega)
  · skip
    refine wp_go rfl rfl ?_
    refine e_get rfl H55 rfl rfl ?_
    refine wp_go rfl rfl ?_
    refine e_get rfl H55 rfl rfl ?_
    refine wp_go rfl rfl ?_
    refine wp_go rfl rfl ?_
    refine wp_call rfl rfl rfl rfl ?_
    refine c_word (by omega) ?_
    refine e_iastE (p := wc) rfl H56 ⟨by omega, by omega⟩ ?_
    refine wp_go rfl rfl ?_
    refine wp_go rfl rfl ?_
    refine e_get rfl H55 rfl rfl ?_
    refine wp_go rfl rfl ?_
    refine e_iadd rfl (by omega) ?_
    refine e_put (fs' := [xR 56, xI ((wc : Int) + 1), xR 57, xI cl, xI co, tl, rb, xI lw, xR 51, xI a, xI kd, xI 1, xI fo, xI pl]) rfl H55 rfl rfl ?_
    refine wp_ret rfl rfl ?_
    exact ky (by omega)
set_option maxRecDepth 100000 in
theorem c_lead {d : Nat} {h : hc_H} {Q : List hc_V → hc_H → Prop} {a kd fo pl cl co lw wt : Int} {wc fm : Nat} {tl rb : hc_V} {wd : Nat → Int} (H55 : h.2.2 55 = rdo (wc : Int) cl co tl rb lw a kd fo pl) (H56 : h.2.2 56 = ar 300 wd) (hw : wc ≤ 300) (hb : 0 ≤ wt ∧ wt ≤ 63) (ky : fm < wc → fm < 300 → Q [] (hc_wr h 56 (ar 300 (hc_u wd fm ((wc : Int) * 64 + wt))))) (kn : ¬ (fm < wc ∧ fm < 300) → Q [] h) : hc_wp (d + 1) mX3_leadHere 0 [xR 55, xI (fm : Int), xI wt] [] h Q := by
  refine wp_go rfl rfl ?_
  refine e_iflt rfl (fun c1 => absurd c1 (by omega)) (fun c1 => ?_)
  refine wp_go rfl rfl ?_
  refine wp_go rfl rfl ?_
  refine e_get rfl H55 rfl rfl ?_
  refine e_cge rfl (fun c9 => ?_) (fun c9 => ?_)
  · skip
    refine wp_ret rfl rfl ?_
    exact kn (by omega)
  · skip
    refine wp_go rfl rfl ?_
    refine wp_go rfl rfl ?_
    refine e_get rfl H55 rfl rfl ?_
    refine e_alen rfl H56 rfl (by decide) ?_
    refine e_cge rfl (fun c18 => ?_) (fun c18 => ?_)
    · skip
      refine wp_ret rfl rfl ?_
      exact kn (by omega)
    · skip
      refine wp_go rfl rfl ?_
      refine e_get rfl H55 rfl rfl ?_
      refine wp_go rfl rfl ?_
      refine wp_go rfl rfl ?_
      refine wp_go rfl rfl ?_
      refine e_get rfl H55 rfl rfl ?_
      refine wp_call rfl rfl rfl rfl ?_
      refine c_word (by omega) ?_
      refine e_iastE (p := fm) rfl H56 ⟨by omega, by omega⟩ ?_
      refine wp_ret rfl rfl ?_
      exact ky (by omega) (by omega)
set_option maxRecDepth 100000 in
theorem c_tknL {d : Nat} {h : hc_H} {Q : List hc_V → hc_H → Prop} {B : Nat → Int} {n i : Nat} {wc cl co lw pl : Int} {tl rb : hc_V} {lo hi9 : Int} (H : BY B) (hn : n ≤ 300) (HT : TOKH h B n) (hi : i ≤ 1000) (H55 : h.2.2 55 = rdo wc cl co tl rb lw (i : Int) (tK B n i) 0 pl) (k1 : ¬ tK B n i = 3 → Q [xI (tN B n i)] (hc_wr h 55 (rdo wc cl co tl rb lw (i : Int) 2 1 ((tP B n i : Nat) : Int)))) (k2 : tK B n i = 3 → ¬ (lo ≤ tN B n i ∧ tN B n i ≤ hi9) → Q [xI (tN B n i)] (hc_wr h 55 (rdo wc cl co tl rb lw (i : Int) 2 2 ((tP B n i : Nat) : Int)))) (ky : tK B n i = 3 → (lo ≤ tN B n i ∧ tN B n i ≤ hi9) → Q [xI (tN B n i)] (hc_wr h 55 (rdo wc cl co tl rb lw ((i + 1 : Nat) : Int) (tK B n (i + 1)) 0 pl))) : hc_wp (d + 2) mX3_takeNumber 0 [xR 55, xI lo, xI hi9, none] [] h Q := by
  obtain ⟨c51, bh51, ks51, ps51, ns51, H51, rest51⟩ := id HT
  refine wp_go rfl rfl ?_
  refine e_get rfl H55 rfl rfl ?_
  refine wp_go rfl rfl ?_
  refine wp_go rfl rfl ?_
  refine e_get rfl H55 rfl rfl ?_
  refine wp_go rfl rfl ?_
  refine e_get rfl H55 rfl rfl ?_
  refine wp_cv rfl rfl rfl H51 rfl rfl rfl ?_
  refine c_numT (i := i) H hn HT ?_
  refine e_istn (L' := [xR 55, xI lo, xI hi9, xI (tN B n i)]) rfl rfl rfl ?_
  refine wp_go rfl rfl ?_
  refine e_get rfl H55 rfl rfl ?_
  refine wp_go rfl rfl ?_
  refine e_ceq rfl (fun c28 => ?_) (fun c28 => ?_)
  · skip
    refine wp_go rfl rfl ?_
    refine wp_go rfl rfl ?_
    refine wp_go rfl rfl ?_
    refine wp_call rfl rfl rfl rfl ?_
    refine c_isWithin  (fun q42 => ?_) (fun q42 => ?_)
    · skip
      refine wp_go rfl rfl ?_
      refine wp_go rfl rfl ?_
      refine wp_cv rfl rfl rfl H55 rfl rfl rfl ?_
      refine c_advL (d := d) H hn HT hi H55 ?_
      refine wp_go rfl rfl ?_
      refine wp_ret rfl rfl ?_
      exact ky c28 q42
    · skip
      refine wp_go rfl rfl ?_
      refine wp_go rfl rfl ?_
      refine wp_go rfl rfl ?_
      refine wp_cv rfl rfl rfl H55 rfl rfl rfl ?_
      refine c_refL (d := d) H hn HT H55 ?_
      refine wp_go rfl rfl ?_
      refine wp_go rfl rfl ?_
      refine wp_ret rfl rfl ?_
      exact k2 c28 q42
  · skip
    refine wp_go rfl rfl ?_
    refine wp_go rfl rfl ?_
    refine wp_cv rfl rfl rfl H55 rfl rfl rfl ?_
    refine c_refL (d := d) H hn HT H55 ?_
    refine wp_go rfl rfl ?_
    refine wp_go rfl rfl ?_
    refine wp_ret rfl rfl ?_
    exact k1 c28
set_option maxRecDepth 100000 in
theorem c_tknS {d : Nat} {h : hc_H} {Q : List hc_V → hc_H → Prop} {B : Nat → Int} {n i : Nat} {wc cl co lw pl : Int} {tl rb : hc_V} {lo hi9 fo : Int} (H : BY B) (hn : n ≤ 300) (HT : TOKH h B n) (H55 : h.2.2 55 = rdo wc cl co tl rb lw (i : Int) 2 fo pl) (hfo : fo ≠ 0) (k : Q [xI (tN B n i)] h) : hc_wp (d + 2) mX3_takeNumber 0 [xR 55, xI lo, xI hi9, none] [] h Q := by
  obtain ⟨c51, bh51, ks51, ps51, ns51, H51, rest51⟩ := id HT
  refine wp_go rfl rfl ?_
  refine e_get rfl H55 rfl rfl ?_
  refine wp_go rfl rfl ?_
  refine wp_go rfl rfl ?_
  refine e_get rfl H55 rfl rfl ?_
  refine wp_go rfl rfl ?_
  refine e_get rfl H55 rfl rfl ?_
  refine wp_cv rfl rfl rfl H51 rfl rfl rfl ?_
  refine c_numT (i := i) H hn HT ?_
  refine e_istn (L' := [xR 55, xI lo, xI hi9, xI (tN B n i)]) rfl rfl rfl ?_
  refine wp_go rfl rfl ?_
  refine e_get rfl H55 rfl rfl ?_
  refine wp_go rfl rfl ?_
  refine wp_go rfl rfl ?_
  refine wp_go rfl rfl ?_
  refine wp_go rfl rfl ?_
  refine wp_cv rfl rfl rfl H55 rfl rfl rfl ?_
  refine c_refS (d := d) H55 hfo ?_
  refine wp_go rfl rfl ?_
  refine wp_go rfl rfl ?_
  refine wp_ret rfl rfl ?_
  exact k
set_option maxRecDepth 100000 in
theorem c_opens {d : Nat} {h : hc_H} {Q : List hc_V → hc_H → Prop} {B : Nat → Int} {n i : Nat} {wc cl co lw pl : Int} {tl rb : hc_V} {q : Nat} (H : BY B) (hn : n ≤ 300) (HT : TOKH h B n) (hi : i ≤ 1000) (H55 : h.2.2 55 = rdo wc cl co tl rb lw (i : Int) (tK B n i) 0 pl) (ky : q < 8 → Q [xI 1] (hc_wr h 55 (rdo wc cl co tl rb lw ((i + 1 : Nat) : Int) (tK B n (i + 1)) 0 pl))) (kn : 8 ≤ q → Q [xI 0] (hc_wr h 55 (rdo wc cl co tl rb lw (i : Int) 2 3 ((tP B n i : Nat) : Int)))) : hc_wp (d + 2) mX3_opens 0 [xR 55, xI (q : Int)] [] h Q := by
  refine wp_go rfl rfl ?_
  refine wp_go rfl rfl ?_
  refine e_clt rfl (fun c3 => ?_) (fun c3 => ?_)
  · skip
    refine wp_go rfl rfl ?_
    refine wp_cv rfl rfl rfl H55 rfl rfl rfl ?_
    refine c_advL (d := d) H hn HT hi H55 ?_
    refine wp_go rfl rfl ?_
    refine wp_ret rfl rfl ?_
    exact ky (by omega)
  · skip
    refine wp_go rfl rfl ?_
    refine wp_go rfl rfl ?_
    refine wp_cv rfl rfl rfl H55 rfl rfl rfl ?_
    refine c_refL (d := d) H hn HT H55 ?_
    refine wp_go rfl rfl ?_
    refine wp_ret rfl rfl ?_
    exact kn (by omega)
