/-! the class: Reader, second part: behind a fault nothing more is done -/
def RS (h : hc_H) (cl co : Int) (tl rb : hc_V) (lw fl pl : Int) (k : Nat) : Prop := ∃ (wc : Nat) (wd : Nat → Int), wc ≤ 300 ∧ h.2.2 55 = rdo (wc : Int) cl co tl rb lw (k : Int) 2 fl pl ∧ h.2.2 56 = ar 300 wd ∧ fl ≠ 0
section RSX
variable {d : Nat} {h : hc_H} {Q : List hc_V → hc_H → Prop} {cl co lw fl pl : Int} {tl rb : hc_V} {k : Nat}
theorem c_sayS {wt nb : Int} (R : RS h cl co tl rb lw fl pl k) (hb : 0 ≤ nb ∧ nb ≤ 100000 ∧ 0 ≤ wt ∧ wt ≤ 63) (kk : ∀ h2, RS h2 cl co tl rb lw fl pl k → Fr [55, 56] h h2 → Q [] h2) : hc_wp (d + 1) mX3_say 0 [xR 55, xI wt, xI nb] [] h Q := by
  obtain ⟨wc, wd, hw, H55, H56, hf⟩ := id R
  refine c_say H55 H56 hw hb (fun z => ?_) (fun z => kk h R Fr.rf)
  exact kk _ ⟨wc + 1, _, by omega, rfl, rfl, hf⟩ ((Fr.rf.wr rfl).wr rfl)
theorem c_leadS {wt : Int} {fm : Nat} (R : RS h cl co tl rb lw fl pl k) (hb : 0 ≤ wt ∧ wt ≤ 63) (kk : ∀ h2, RS h2 cl co tl rb lw fl pl k → Fr [55, 56] h h2 → Q [] h2) : hc_wp (d + 1) mX3_leadHere 0 [xR 55, xI (fm : Int), xI wt] [] h Q := by
  obtain ⟨wc, wd, hw, H55, H56, hf⟩ := id R
  refine c_lead H55 H56 hw hb (fun _ _ => ?_) (fun z => kk h R Fr.rf)
  exact kk _ ⟨wc, _, hw, H55, rfl, hf⟩ (Fr.rf.wr rfl)
end RSX
set_option maxRecDepth 100000 in
theorem c_nameS {d : Nat} {h : hc_H} {Q : List hc_V → hc_H → Prop} {cl co lw fl pl : Int} {tl rb : hc_V} {k : Nat} (R : RS h cl co tl rb lw fl pl k) (kk : ∀ h2, RS h2 cl co tl rb lw fl pl k → Fr [55, 56] h h2 → Q [] h2) : hc_wp (d + 2) mX3_readName 0 [xR 55] [] h Q := by
  obtain ⟨wc0, wd0, hw0, G0, E0, hf0⟩ := id R
  refine wp_go rfl rfl ?_
  refine e_get rfl G0 rfl rfl ?_
  refine wp_go rfl rfl ?_
  refine wp_go rfl rfl ?_
  refine wp_call rfl rfl rfl rfl ?_
  refine c_isWithin (fun q => absurd q (by omega)) (fun q => ?_)
  refine wp_go rfl rfl ?_
  refine wp_go rfl rfl ?_
  refine wp_go rfl rfl ?_
  refine wp_cv rfl rfl rfl G0 rfl rfl rfl ?_
  refine c_refS G0 hf0 ?_
  refine wp_go rfl rfl ?_
  refine wp_ret rfl rfl ?_
  exact kk _ R Fr.rf
set_option maxRecDepth 100000 in
theorem c_oneS {d : Nat} {h : hc_H} {Q : List hc_V → hc_H → Prop} {cl co lw fl pl : Int} {tl rb : hc_V} {k : Nat} {q : Int} (R : RS h cl co tl rb lw fl pl k) (kk : ∀ h2, RS h2 cl co tl rb lw fl pl k → Fr [55, 56] h h2 → Q [] h2) : hc_wp (d + 3) mX3_readOne 0 [xR 55, xI q] [] h Q := by
  obtain ⟨wc0, wd0, hw0, G0, E0, hf0⟩ := id R
  refine wp_go rfl rfl ?_
  refine e_get rfl G0 rfl rfl ?_
  refine wp_go rfl rfl ?_
  refine wp_go rfl rfl ?_
  refine wp_cv rfl rfl rfl G0 rfl rfl rfl ?_
  refine c_nameS R (fun h1 R1 F1 => ?_)
  obtain ⟨wc1, wd1, hw1, G1, E1, hf1⟩ := id R1
  refine wp_ret rfl rfl ?_
  exact kk _ R1 (Fr.rf.tr F1 (fun _ z => z))
set_option maxRecDepth 100000 in
theorem c_prodS {d : Nat} {h : hc_H} {Q : List hc_V → hc_H → Prop} {cl co lw fl pl : Int} {tl rb : hc_V} {k : Nat} {q : Int} (R : RS h cl co tl rb lw fl pl k) (kk : ∀ h2, RS h2 cl co tl rb lw fl pl k → Fr [55, 56] h h2 → Q [] h2) : hc_wp (d + 4) mX3_readProduct 0 [xR 55, xI q, none, none] [] h Q := by
  obtain ⟨wc0, wd0, hw0, G0, E0, hf0⟩ := id R
  refine wp_go rfl rfl ?_
  refine wp_go rfl rfl ?_
  refine wp_cv rfl rfl rfl G0 rfl rfl rfl ?_
  refine c_oneS R (fun h2 R2 F2 => ?_)
  obtain ⟨wc2, wd2, hw2, G2, E2, hf2⟩ := id R2
  refine wp_go rfl rfl ?_
  refine e_istn (L' := [xR 55, xI q, xI 0, none]) rfl rfl rfl ?_
  refine wp_go rfl rfl ?_
  refine wp_go rfl rfl ?_
  refine wp_go rfl rfl ?_
  refine wp_go rfl rfl ?_
  refine e_get rfl G2 rfl rfl ?_
  refine wp_go rfl rfl ?_
  refine wp_go rfl rfl ?_
  refine wp_call rfl rfl rfl rfl ?_
  refine c_isWithin (fun q => absurd q (by omega)) (fun q => ?_)
  refine wp_go rfl rfl ?_
  refine wp_ret rfl rfl ?_
  exact kk _ R2 (Fr.rf.tr F2 (fun _ z => z))
set_option maxRecDepth 100000 in
theorem c_sumS {d : Nat} {h : hc_H} {Q : List hc_V → hc_H → Prop} {cl co lw fl pl : Int} {tl rb : hc_V} {k : Nat} {q : Int} (R : RS h cl co tl rb lw fl pl k) (kk : ∀ h2, RS h2 cl co tl rb lw fl pl k → Fr [55, 56] h h2 → Q [] h2) : hc_wp (d + 5) mX3_readSum 0 [xR 55, xI q, none, none] [] h Q := by
  obtain ⟨wc0, wd0, hw0, G0, E0, hf0⟩ := id R
  refine wp_go rfl rfl ?_
  refine wp_go rfl rfl ?_
  refine wp_cv rfl rfl rfl G0 rfl rfl rfl ?_
  refine c_prodS R (fun h3 R3 F3 => ?_)
  obtain ⟨wc3, wd3, hw3, G3, E3, hf3⟩ := id R3
  refine wp_go rfl rfl ?_
  refine e_istn (L' := [xR 55, xI q, xI 0, none]) rfl rfl rfl ?_
  refine wp_go rfl rfl ?_
  refine wp_go rfl rfl ?_
  refine wp_go rfl rfl ?_
  refine wp_go rfl rfl ?_
  refine e_get rfl G3 rfl rfl ?_
  refine wp_go rfl rfl ?_
  refine wp_go rfl rfl ?_
  refine wp_call rfl rfl rfl rfl ?_
  refine c_isWithin (fun q => absurd q (by omega)) (fun q => ?_)
  refine wp_go rfl rfl ?_
  refine wp_ret rfl rfl ?_
  exact kk _ R3 (Fr.rf.tr F3 (fun _ z => z))
set_option maxRecDepth 100000 in
theorem c_askS {d : Nat} {h : hc_H} {Q : List hc_V → hc_H → Prop} {cl co lw fl pl : Int} {tl rb : hc_V} {k : Nat} {q : Int} (R : RS h cl co tl rb lw fl pl k) (kk : ∀ h2, RS h2 cl co tl rb lw fl pl k → Fr [55, 56] h h2 → Q [] h2) : hc_wp (d + 6) mX3_readAsk 0 [xR 55, xI q, none] [] h Q := by
  obtain ⟨wc0, wd0, hw0, G0, E0, hf0⟩ := id R
  refine wp_go rfl rfl ?_
  refine e_get rfl G0 rfl rfl ?_
  refine wp_go rfl rfl ?_
  refine wp_go rfl rfl ?_
  refine wp_go rfl rfl ?_
  refine wp_go rfl rfl ?_
  refine wp_cv rfl rfl rfl G0 rfl rfl rfl ?_
  refine c_sumS R (fun h4 R4 F4 => ?_)
  obtain ⟨wc4, wd4, hw4, G4, E4, hf4⟩ := id R4
  refine wp_go rfl rfl ?_
  refine e_get rfl G4 rfl rfl ?_
  refine e_istn (L' := [xR 55, xI q, xI 2]) rfl rfl rfl ?_
  refine wp_go rfl rfl ?_
  refine e_get rfl G4 rfl rfl ?_
  refine wp_go rfl rfl ?_
  refine wp_go rfl rfl ?_
  refine wp_call rfl rfl rfl rfl ?_
  refine c_isWithin (fun q => absurd q (by omega)) (fun q => ?_)
  refine wp_go rfl rfl ?_
  refine wp_go rfl rfl ?_
  refine wp_go rfl rfl ?_
  refine wp_cv rfl rfl rfl G4 rfl rfl rfl ?_
  refine c_refS G4 hf4 ?_
  refine wp_ret rfl rfl ?_
  exact kk _ R4 (Fr.rf.tr F4 (fun _ z => z))
set_option maxRecDepth 100000 in
theorem c_bothS {d : Nat} {h : hc_H} {Q : List hc_V → hc_H → Prop} {cl co lw fl pl : Int} {tl rb : hc_V} {k : Nat} {q : Int} (R : RS h cl co tl rb lw fl pl k) (kk : ∀ h2, RS h2 cl co tl rb lw fl pl k → Fr [55, 56] h h2 → Q [] h2) : hc_wp (d + 7) mX3_readBoth 0 [xR 55, xI q, none] [] h Q := by
  obtain ⟨wc0, wd0, hw0, G0, E0, hf0⟩ := id R
  refine wp_go rfl rfl ?_
  refine wp_go rfl rfl ?_
  refine wp_cv rfl rfl rfl G0 rfl rfl rfl ?_
  refine c_askS R (fun h5 R5 F5 => ?_)
  obtain ⟨wc5, wd5, hw5, G5, E5, hf5⟩ := id R5
  refine wp_go rfl rfl ?_
  refine e_istn (L' := [xR 55, xI q, xI 0]) rfl rfl rfl ?_
  refine wp_go rfl rfl ?_
  refine wp_go rfl rfl ?_
  refine wp_go rfl rfl ?_
  refine wp_go rfl rfl ?_
  refine e_get rfl G5 rfl rfl ?_
  refine wp_go rfl rfl ?_
  refine wp_go rfl rfl ?_
  refine wp_ret rfl rfl ?_
  exact kk _ R5 (Fr.rf.tr F5 (fun _ z => z))
set_option maxRecDepth 100000 in
theorem c_eithS {d : Nat} {h : hc_H} {Q : List hc_V → hc_H → Prop} {cl co lw fl pl : Int} {tl rb : hc_V} {k : Nat} {q : Int} (R : RS h cl co tl rb lw fl pl k) (kk : ∀ h2, RS h2 cl co tl rb lw fl pl k → Fr [55, 56] h h2 → Q [] h2) : hc_wp (d + 8) mX3_readEither 0 [xR 55, xI q, none] [] h Q := by
  obtain ⟨wc0, wd0, hw0, G0, E0, hf0⟩ := id R
  refine wp_go rfl rfl ?_
  refine wp_go rfl rfl ?_
  refine wp_cv rfl rfl rfl G0 rfl rfl rfl ?_
  refine c_bothS R (fun h6 R6 F6 => ?_)
  obtain ⟨wc6, wd6, hw6, G6, E6, hf6⟩ := id R6
  refine wp_go rfl rfl ?_
  refine e_istn (L' := [xR 55, xI q, xI 0]) rfl rfl rfl ?_
  refine wp_go rfl rfl ?_
  refine wp_go rfl rfl ?_
  refine wp_go rfl rfl ?_
  refine wp_go rfl rfl ?_
  refine e_get rfl G6 rfl rfl ?_
  refine wp_go rfl rfl ?_
  refine wp_go rfl rfl ?_
  refine wp_ret rfl rfl ?_
  exact kk _ R6 (Fr.rf.tr F6 (fun _ z => z))
