/-! the reference: the next token -/
theorem tat_s {B : Nat → Int} {n i : Nat} : tat B n (i + 1) = tke B n (tP B n i) := rfl
set_option maxRecDepth 100000 in
theorem l_sg1 {d : Nat} {h h0 : hc_H} {Q : List hc_V → hc_H → Prop} {n p i : Nat} {c : Int} {B s s0 : Nat → Int} (H : BY B) (hn : n ≤ 300) (hp : p = tP B n i) (hc : bt B n p = c) (hc1 : ¬ c = -1) (hcL : isLe c = false) (hcD : isDi c = false) (hcs : (c = 60 ∨ c = 62 ∨ c = 61 ∨ c = 35 ∨ c = 43 ∨ c = 45 ∨ c = 42 ∨ c = 47 ∨ c = 40 ∨ c = 41 ∨ c = 59 ∨ c = 44 ∨ c = 63 ∨ c = 58)) (hpn : p < 300) (H71 : h.2.2 71 = mo s) (e4 : s 4 = (n : Int)) (e7 : s 7 = (p : Int) + 1) (e8 : s 8 = ((tP B n i : Nat) : Int)) (H75 : h.2.2 75 = ar 300 B) (HM : ME [7, 8, 9, 10, 11] s0 s) (HF : Fr [71] h0 h) (k : ∀ h2 s2, h2.2.2 71 = mo s2 → TA B n s2 i → ME [7, 8, 9, 10, 11] s0 s2 → Fr [71] h0 h2 → Q [] h2) : hc_wp (d + 2) mX10_nextToken 344 [xR 71, xI c, none] [xI 1] h Q := by
  have H71p : h.2.2 71 = .inr (10, [xR 72, xR 73, xR 74, xR 75, xI (s 4), xI (s 5), xI (s 6), xI ((p : Int) + 1), xI (s 8), xI (s 9), xI (s 10), xL (s 11), xI (s 12), xI (s 13), xI (s 14), xI (s 15), xR 76, xI (s 17), xI (s 18), xI (s 19), xI (s 20), xI (s 21), xI (s 22), xR 77, xR 78, xR 79, xR 80, xR 81, xR 82, xR 83, xI (s 30), xR 84, xR 85, xR 86, xR 87, xR 88, xR 89, xR 90]) := by rw [← e7]; exact H71
  refine e_istn (L' := [xR 71, xI c, xI 1]) rfl rfl rfl ?_
  refine wp_go rfl rfl ?_
  refine wp_go rfl rfl ?_
  refine wp_go rfl rfl ?_
  refine wp_go rfl rfl ?_
  refine wp_go rfl rfl ?_
  refine e_put (fs' := [xR 72, xR 73, xR 74, xR 75, xI (s 4), xI (s 5), xI (s 6), xI ((p : Int) + 1), xI (s 8), xI c, xI (s 10), xL (s 11), xI (s 12), xI (s 13), xI (s 14), xI (s 15), xR 76, xI (s 17), xI (s 18), xI (s 19), xI (s 20), xI (s 21), xI (s 22), xR 77, xR 78, xR 79, xR 80, xR 81, xR 82, xR 83, xI (s 30), xR 84, xR 85, xR 86, xR 87, xR 88, xR 89, xR 90]) rfl H71p rfl rfl ?_
  refine wp_go rfl rfl ?_
  refine wp_go rfl rfl ?_
  refine e_ceq rfl (fun c361 => ?_) (fun c361 => ?_)
  · skip
    refine wp_go rfl rfl ?_
    refine wp_go rfl rfl ?_
    refine e_get rfl rfl rfl rfl ?_
    refine wp_cv rfl rfl rfl rfl rfl rfl rfl ?_
    refine c_mbyte (s := _) (p := p + 1) hn (show _ = mo (hc_u (hc_u s 7 ((p : Int) + 1)) 9 c) from rfl) e4 H75 ?_
    refine wp_go rfl rfl ?_
    refine e_cne rfl (fun c380 => ?_) (fun c380 => ?_)
    · skip
      refine wp_ret rfl rfl ?_
      have es : sgw B n p = sgk c false := by
        unfold sgw
        rw [hc]
        cases ql : decide (bt B n (p + 1) = 61) with
        | false => rfl
        | true =>
          have ql2 := of_decide_eq_true ql
          have c1 : c ≠ 60 := by omega
          have c2 : c ≠ 62 := by omega
          unfold sgk
          rw [if_neg c1, if_neg c2, if_neg c1, if_neg c2]
      have hk1 : tkk B n p = sgw B n p := by unfold tkk; rw [hc, if_neg hc1, if_neg (nt hcL), if_neg (nt hcD)]
      have hk3 : tke B n p = p + 1 := by unfold tke; rw [hc, if_neg hc1, if_neg (nt hcL), if_neg (nt hcD)]; rw [es]; rw [if_neg]; have z := sgk_2 (c := c) (l := false); intro z2; exact absurd (z z2) (by decide)
      refine k _ (hc_u (hc_u s 7 ((p : Int) + 1)) 9 c) rfl ⟨e4, ?_, e8, ?_, fun z => ?_⟩ ((HM.u rfl).u rfl) (HF.wr rfl)
      · rw [tat_s, ← hp, hk3]
        rfl
      · show mkd c (s 11) = tkk B n (tP B n i)
        rw [← hp, hk1, es]
        unfold mkd; rw [if_neg (by omega), if_neg (by omega), if_neg (by omega), if_neg (by omega), if_neg (by omega)]
      · exact absurd (show (c : Int) = 1 from z) (by omega)
    · skip
      refine wp_go rfl rfl ?_
      refine wp_go rfl rfl ?_
      refine e_get rfl rfl rfl rfl ?_
      refine wp_go rfl rfl ?_
      refine e_iadd rfl (by omega) ?_
      refine e_put (fs' := [xR 72, xR 73, xR 74, xR 75, xI (s 4), xI (s 5), xI (s 6), xI (((p : Int) + 1) + 1), xI (s 8), xI c, xI (s 10), xL (s 11), xI (s 12), xI (s 13), xI (s 14), xI (s 15), xR 76, xI (s 17), xI (s 18), xI (s 19), xI (s 20), xI (s 21), xI (s 22), xR 77, xR 78, xR 79, xR 80, xR 81, xR 82, xR 83, xI (s 30), xR 84, xR 85, xR 86, xR 87, xR 88, xR 89, xR 90]) rfl rfl rfl rfl ?_
      refine wp_go rfl rfl ?_
      refine wp_go rfl rfl ?_
      refine wp_go rfl rfl ?_
      refine e_cne rfl (fun c397 => ?_) (fun c397 => ?_)
      · skip
        refine wp_go rfl rfl ?_
        refine e_put (fs' := [xR 72, xR 73, xR 74, xR 75, xI (s 4), xI (s 5), xI (s 6), xI (((p : Int) + 1) + 1), xI (s 8), xI 5, xI (s 10), xL (s 11), xI (s 12), xI (s 13), xI (s 14), xI (s 15), xR 76, xI (s 17), xI (s 18), xI (s 19), xI (s 20), xI (s 21), xI (s 22), xR 77, xR 78, xR 79, xR 80, xR 81, xR 82, xR 83, xI (s 30), xR 84, xR 85, xR 86, xR 87, xR 88, xR 89, xR 90]) rfl rfl rfl rfl ?_
        refine wp_ret rfl rfl ?_
        have el : decide (bt B n (p + 1) = 61) = true := decide_eq_true (by omega)
        have es : sgw B n p = 43 := by unfold sgw; rw [el, hc]; rw [show c = 62 by omega]; rfl
        have hk1 : tkk B n p = sgw B n p := by unfold tkk; rw [hc, if_neg hc1, if_neg (nt hcL), if_neg (nt hcD)]
        have hk3 : tke B n p = p + 2 := by unfold tke; rw [hc, if_neg hc1, if_neg (nt hcL), if_neg (nt hcD)]; rw [es]; rfl
        refine k _ (hc_u (hc_u (hc_u (hc_u s 7 ((p : Int) + 1)) 9 c) 7 ((p : Int) + 1 + 1)) 9 5) rfl ⟨e4, ?_, e8, ?_, fun z => ?_⟩ ((((HM.u rfl).u rfl).u rfl).u rfl) (((HF.wr rfl).wr rfl).wr rfl)
        · rw [tat_s, ← hp, hk3]
          rfl
        · show mkd 5 (s 11) = tkk B n (tP B n i)
          rw [← hp, hk1, es]
          rfl
        · exact absurd (show (5 : Int) = 1 from z) (by decide)
      · skip
        refine wp_go rfl rfl ?_
        refine wp_go rfl rfl ?_
        refine e_put (fs' := [xR 72, xR 73, xR 74, xR 75, xI (s 4), xI (s 5), xI (s 6), xI (((p : Int) + 1) + 1), xI (s 8), xI 4, xI (s 10), xL (s 11), xI (s 12), xI (s 13), xI (s 14), xI (s 15), xR 76, xI (s 17), xI (s 18), xI (s 19), xI (s 20), xI (s 21), xI (s 22), xR 77, xR 78, xR 79, xR 80, xR 81, xR 82, xR 83, xI (s 30), xR 84, xR 85, xR 86, xR 87, xR 88, xR 89, xR 90]) rfl rfl rfl rfl ?_
        refine wp_ret rfl rfl ?_
        have el : decide (bt B n (p + 1) = 61) = true := decide_eq_true (by omega)
        have es : sgw B n p = 41 := by unfold sgw; rw [el, hc]; rw [show c = 60 by omega]; rfl
        have hk1 : tkk B n p = sgw B n p := by unfold tkk; rw [hc, if_neg hc1, if_neg (nt hcL), if_neg (nt hcD)]
        have hk3 : tke B n p = p + 2 := by unfold tke; rw [hc, if_neg hc1, if_neg (nt hcL), if_neg (nt hcD)]; rw [es]; rfl
        refine k _ (hc_u (hc_u (hc_u (hc_u s 7 ((p : Int) + 1)) 9 c) 7 ((p : Int) + 1 + 1)) 9 4) rfl ⟨e4, ?_, e8, ?_, fun z => ?_⟩ ((((HM.u rfl).u rfl).u rfl).u rfl) (((HF.wr rfl).wr rfl).wr rfl)
        · rw [tat_s, ← hp, hk3]
          rfl
        · show mkd 4 (s 11) = tkk B n (tP B n i)
          rw [← hp, hk1, es]
          rfl
        · exact absurd (show (4 : Int) = 1 from z) (by decide)
  · skip
    refine wp_go rfl rfl ?_
    refine wp_go rfl rfl ?_
    refine e_cne rfl (fun c367 => ?_) (fun c367 => ?_)
    · skip
      refine wp_ret rfl rfl ?_
      have es : sgw B n p = sgk c false := by
        unfold sgw
        rw [hc]
        cases ql : decide (bt B n (p + 1) = 61) with
        | false => rfl
        | true =>
          have ql2 := of_decide_eq_true ql
          have c1 : c ≠ 60 := by omega
          have c2 : c ≠ 62 := by omega
          unfold sgk
          rw [if_neg c1, if_neg c2, if_neg c1, if_neg c2]
      have hk1 : tkk B n p = sgw B n p := by unfold tkk; rw [hc, if_neg hc1, if_neg (nt hcL), if_neg (nt hcD)]
      have hk3 : tke B n p = p + 1 := by unfold tke; rw [hc, if_neg hc1, if_neg (nt hcL), if_neg (nt hcD)]; rw [es]; rw [if_neg]; have z := sgk_2 (c := c) (l := false); intro z2; exact absurd (z z2) (by decide)
      refine k _ (hc_u (hc_u s 7 ((p : Int) + 1)) 9 c) rfl ⟨e4, ?_, e8, ?_, fun z => ?_⟩ ((HM.u rfl).u rfl) (HF.wr rfl)
      · rw [tat_s, ← hp, hk3]
        rfl
      · show mkd c (s 11) = tkk B n (tP B n i)
        rw [← hp, hk1, es]
        unfold mkd; rw [if_neg (by omega), if_neg (by omega), if_neg (by omega), if_neg (by omega), if_neg (by omega)]
      · exact absurd (show (c : Int) = 1 from z) (by omega)
    · skip
      refine wp_go rfl rfl ?_
      refine wp_go rfl rfl ?_
      refine e_get rfl rfl rfl rfl ?_
      refine wp_cv rfl rfl rfl rfl rfl rfl rfl ?_
      refine c_mbyte (s := _) (p := p + 1) hn (show _ = mo (hc_u (hc_u s 7 ((p : Int) + 1)) 9 c) from rfl) e4 H75 ?_
      refine wp_go rfl rfl ?_
      refine e_cne rfl (fun c380 => ?_) (fun c380 => ?_)
      · skip
        refine wp_ret rfl rfl ?_
        have es : sgw B n p = sgk c false := by
          unfold sgw
          rw [hc]
          cases ql : decide (bt B n (p + 1) = 61) with
          | false => rfl
          | true =>
            have ql2 := of_decide_eq_true ql
            have c1 : c ≠ 60 := by omega
            have c2 : c ≠ 62 := by omega
            unfold sgk
            rw [if_neg c1, if_neg c2, if_neg c1, if_neg c2]
        have hk1 : tkk B n p = sgw B n p := by unfold tkk; rw [hc, if_neg hc1, if_neg (nt hcL), if_neg (nt hcD)]
        have hk3 : tke B n p = p + 1 := by unfold tke; rw [hc, if_neg hc1, if_neg (nt hcL), if_neg (nt hcD)]; rw [es]; rw [if_neg]; have z := sgk_2 (c := c) (l := false); intro z2; exact absurd (z z2) (by decide)
        refine k _ (hc_u (hc_u s 7 ((p : Int) + 1)) 9 c) rfl ⟨e4, ?_, e8, ?_, fun z => ?_⟩ ((HM.u rfl).u rfl) (HF.wr rfl)
        · rw [tat_s, ← hp, hk3]
          rfl
        · show mkd c (s 11) = tkk B n (tP B n i)
          rw [← hp, hk1, es]
          unfold mkd; rw [if_neg (by omega), if_neg (by omega), if_neg (by omega), if_neg (by omega), if_neg (by omega)]
        · exact absurd (show (c : Int) = 1 from z) (by omega)
      · skip
        refine wp_go rfl rfl ?_
        refine wp_go rfl rfl ?_
        refine e_get rfl rfl rfl rfl ?_
        refine wp_go rfl rfl ?_
        refine e_iadd rfl (by omega) ?_
        refine e_put (fs' := [xR 72, xR 73, xR 74, xR 75, xI (s 4), xI (s 5), xI (s 6), xI (((p : Int) + 1) + 1), xI (s 8), xI c, xI (s 10), xL (s 11), xI (s 12), xI (s 13), xI (s 14), xI (s 15), xR 76, xI (s 17), xI (s 18), xI (s 19), xI (s 20), xI (s 21), xI (s 22), xR 77, xR 78, xR 79, xR 80, xR 81, xR 82, xR 83, xI (s 30), xR 84, xR 85, xR 86, xR 87, xR 88, xR 89, xR 90]) rfl rfl rfl rfl ?_
        refine wp_go rfl rfl ?_
        refine wp_go rfl rfl ?_
        refine wp_go rfl rfl ?_
        refine e_cne rfl (fun c397 => ?_) (fun c397 => ?_)
        · skip
          refine wp_go rfl rfl ?_
          refine e_put (fs' := [xR 72, xR 73, xR 74, xR 75, xI (s 4), xI (s 5), xI (s 6), xI (((p : Int) + 1) + 1), xI (s 8), xI 5, xI (s 10), xL (s 11), xI (s 12), xI (s 13), xI (s 14), xI (s 15), xR 76, xI (s 17), xI (s 18), xI (s 19), xI (s 20), xI (s 21), xI (s 22), xR 77, xR 78, xR 79, xR 80, xR 81, xR 82, xR 83, xI (s 30), xR 84, xR 85, xR 86, xR 87, xR 88, xR 89, xR 90]) rfl rfl rfl rfl ?_
          refine wp_ret rfl rfl ?_
          have el : decide (bt B n (p + 1) = 61) = true := decide_eq_true (by omega)
          have es : sgw B n p = 43 := by unfold sgw; rw [el, hc]; rw [show c = 62 by omega]; rfl
          have hk1 : tkk B n p = sgw B n p := by unfold tkk; rw [hc, if_neg hc1, if_neg (nt hcL), if_neg (nt hcD)]
          have hk3 : tke B n p = p + 2 := by unfold tke; rw [hc, if_neg hc1, if_neg (nt hcL), if_neg (nt hcD)]; rw [es]; rfl
          refine k _ (hc_u (hc_u (hc_u (hc_u s 7 ((p : Int) + 1)) 9 c) 7 ((p : Int) + 1 + 1)) 9 5) rfl ⟨e4, ?_, e8, ?_, fun z => ?_⟩ ((((HM.u rfl).u rfl).u rfl).u rfl) (((HF.wr rfl).wr rfl).wr rfl)
          · rw [tat_s, ← hp, hk3]
            rfl
          · show mkd 5 (s 11) = tkk B n (tP B n i)
            rw [← hp, hk1, es]
            rfl
          · exact absurd (show (5 : Int) = 1 from z) (by decide)
        · skip
          refine wp_go rfl rfl ?_
          refine wp_go rfl rfl ?_
          refine e_put (fs' := [xR 72, xR 73, xR 74, xR 75, xI (s 4), xI (s 5), xI (s 6), xI (((p : Int) + 1) + 1), xI (s 8), xI 4, xI (s 10), xL (s 11), xI (s 12), xI (s 13), xI (s 14), xI (s 15), xR 76, xI (s 17), xI (s 18), xI (s 19), xI (s 20), xI (s 21), xI (s 22), xR 77, xR 78, xR 79, xR 80, xR 81, xR 82, xR 83, xI (s 30), xR 84, xR 85, xR 86, xR 87, xR 88, xR 89, xR 90]) rfl rfl rfl rfl ?_
          refine wp_ret rfl rfl ?_
          have el : decide (bt B n (p + 1) = 61) = true := decide_eq_true (by omega)
          have es : sgw B n p = 41 := by unfold sgw; rw [el, hc]; rw [show c = 60 by omega]; rfl
          have hk1 : tkk B n p = sgw B n p := by unfold tkk; rw [hc, if_neg hc1, if_neg (nt hcL), if_neg (nt hcD)]
          have hk3 : tke B n p = p + 2 := by unfold tke; rw [hc, if_neg hc1, if_neg (nt hcL), if_neg (nt hcD)]; rw [es]; rfl
          refine k _ (hc_u (hc_u (hc_u (hc_u s 7 ((p : Int) + 1)) 9 c) 7 ((p : Int) + 1 + 1)) 9 4) rfl ⟨e4, ?_, e8, ?_, fun z => ?_⟩ ((((HM.u rfl).u rfl).u rfl).u rfl) (((HF.wr rfl).wr rfl).wr rfl)
          · rw [tat_s, ← hp, hk3]
            rfl
          · show mkd 4 (s 11) = tkk B n (tP B n i)
            rw [← hp, hk1, es]
            rfl
          · exact absurd (show (4 : Int) = 1 from z) (by decide)
set_option maxRecDepth 100000 in
theorem l_sg0 {d : Nat} {h h0 : hc_H} {Q : List hc_V → hc_H → Prop} {n p i : Nat} {c : Int} {B s s0 : Nat → Int} (H : BY B) (hn : n ≤ 300) (hp : p = tP B n i) (hc : bt B n p = c) (hc1 : ¬ c = -1) (hcL : isLe c = false) (hcD : isDi c = false) (hcs : ¬ (c = 60 ∨ c = 62 ∨ c = 61 ∨ c = 35 ∨ c = 43 ∨ c = 45 ∨ c = 42 ∨ c = 47 ∨ c = 40 ∨ c = 41 ∨ c = 59 ∨ c = 44 ∨ c = 63 ∨ c = 58)) (hpn : p < 300) (H71 : h.2.2 71 = mo s) (e4 : s 4 = (n : Int)) (e7 : s 7 = (p : Int) + 1) (e8 : s 8 = ((tP B n i : Nat) : Int)) (H75 : h.2.2 75 = ar 300 B) (HM : ME [7, 8, 9, 10, 11] s0 s) (HF : Fr [71] h0 h) (k : ∀ h2 s2, h2.2.2 71 = mo s2 → TA B n s2 i → ME [7, 8, 9, 10, 11] s0 s2 → Fr [71] h0 h2 → Q [] h2) : hc_wp (d + 2) mX10_nextToken 344 [xR 71, xI c, none] [xI 0] h Q := by
  have H71p : h.2.2 71 = .inr (10, [xR 72, xR 73, xR 74, xR 75, xI (s 4), xI (s 5), xI (s 6), xI ((p : Int) + 1), xI (s 8), xI (s 9), xI (s 10), xL (s 11), xI (s 12), xI (s 13), xI (s 14), xI (s 15), xR 76, xI (s 17), xI (s 18), xI (s 19), xI (s 20), xI (s 21), xI (s 22), xR 77, xR 78, xR 79, xR 80, xR 81, xR 82, xR 83, xI (s 30), xR 84, xR 85, xR 86, xR 87, xR 88, xR 89, xR 90]) := by rw [← e7]; exact H71
  refine e_istn (L' := [xR 71, xI c, xI 0]) rfl rfl rfl ?_
  refine wp_go rfl rfl ?_
  refine wp_go rfl rfl ?_
  refine wp_go rfl rfl ?_
  refine wp_go rfl rfl ?_
  refine e_put (fs' := [xR 72, xR 73, xR 74, xR 75, xI (s 4), xI (s 5), xI (s 6), xI ((p : Int) + 1), xI (s 8), xI 3, xI (s 10), xL (s 11), xI (s 12), xI (s 13), xI (s 14), xI (s 15), xR 76, xI (s 17), xI (s 18), xI (s 19), xI (s 20), xI (s 21), xI (s 22), xR 77, xR 78, xR 79, xR 80, xR 81, xR 82, xR 83, xI (s 30), xR 84, xR 85, xR 86, xR 87, xR 88, xR 89, xR 90]) rfl H71p rfl rfl ?_
  refine wp_go rfl rfl ?_
  refine wp_go rfl rfl ?_
  refine e_ceq rfl (fun c361 => absurd c361 (by omega)) (fun c361 => ?_)
  refine wp_go rfl rfl ?_
  refine wp_go rfl rfl ?_
  refine e_cne rfl (fun c367 => ?_) (fun c367 => absurd c367 (by omega))
  refine wp_ret rfl rfl ?_
  have es : sgw B n p = 1 := by
    unfold sgw sgk
    rw [hc]
    repeat rw [if_neg (by omega)]
  have hk1 : tkk B n p = sgw B n p := by unfold tkk; rw [hc, if_neg hc1, if_neg (nt hcL), if_neg (nt hcD)]
  have hk3 : tke B n p = p + 1 := by unfold tke; rw [hc, if_neg hc1, if_neg (nt hcL), if_neg (nt hcD)]; rw [es]; rw [if_neg]; decide
  refine k _ (hc_u (hc_u s 7 ((p : Int) + 1)) 9 3) rfl ⟨e4, ?_, e8, ?_, fun z => ?_⟩ ((HM.u rfl).u rfl) (HF.wr rfl)
  · rw [tat_s, ← hp, hk3]
    rfl
  · show mkd 3 (s 11) = tkk B n (tP B n i)
    rw [← hp, hk1, es]
    rfl
  · exact absurd (show (3 : Int) = 1 from z) (by decide)
theorem wd_all {B : Nat → Int} {n p L w : Nat} (h1 : 1 ≤ L) (h7 : L ≤ 7) (hb : ∀ k, k < L → 65 ≤ bt B n (p + k) ∧ bt B n (p + k) ≤ 122) (hw : 10 ≤ w) (hw2 : w < 30) : wdF B n p (p + L) w = decide (pw B n p L = cw w) := by
  have hc : w = 10 ∨ w = 11 ∨ w = 12 ∨ w = 13 ∨ w = 14 ∨ w = 15 ∨ w = 16 ∨ w = 17 ∨ w = 18 ∨ w = 19 ∨ w = 20 ∨ w = 21 ∨ w = 22 ∨ w = 23 ∨ w = 24 ∨ w = 25 ∨ w = 26 ∨ w = 27 ∨ w = 28 ∨ w = 29 := by omega
  rcases hc with rfl | rfl | rfl | rfl | rfl | rfl | rfl | rfl | rfl | rfl | rfl | rfl | rfl | rfl | rfl | rfl | rfl | rfl | rfl | rfl
  · exact wd_10 h1 h7 hb
  · exact wd_11 h1 h7 hb
  · exact wd_12 h1 h7 hb
  · exact wd_13 h1 h7 hb
  · exact wd_14 h1 h7 hb
  · exact wd_15 h1 h7 hb
  · exact wd_16 h1 h7 hb
  · exact wd_17 h1 h7 hb
  · exact wd_18 h1 h7 hb
  · exact wd_19 h1 h7 hb
  · exact wd_20 h1 h7 hb
  · exact wd_21 h1 h7 hb
  · exact wd_22 h1 h7 hb
  · exact wd_23 h1 h7 hb
  · exact wd_24 h1 h7 hb
  · exact wd_25 h1 h7 hb
  · exact wd_26 h1 h7 hb
  · exact wd_27 h1 h7 hb
  · exact wd_28 h1 h7 hb
  · exact wd_29 h1 h7 hb
set_option maxRecDepth 100000 in
theorem l_nt39 {d : Nat} {h h0 : hc_H} {Q : List hc_V → hc_H → Prop} {n p i : Nat} {B s s0 : Nat → Int} (H : BY B) (hn : n ≤ 300) (hp : p = tP B n i) (hpb : p ≤ n) (H71 : h.2.2 71 = mo s) (e4 : s 4 = (n : Int)) (e7 : s 7 = (p : Int)) (H75 : h.2.2 75 = ar 300 B) (HM : ME [7, 8, 9, 10, 11] s0 s) (HF : Fr [71] h0 h) (k : ∀ h2 s2, h2.2.2 71 = mo s2 → TA B n s2 i → ME [7, 8, 9, 10, 11] s0 s2 → Fr [71] h0 h2 → Q [] h2) : hc_wp (d + 2) mX10_nextToken 39 [xR 71, none, none] [] h Q := by
  have hbb := bt_bd (p := p) H hn
  have H71p : h.2.2 71 = .inr (10, [xR 72, xR 73, xR 74, xR 75, xI (s 4), xI (s 5), xI (s 6), xI (p : Int), xI (s 8), xI (s 9), xI (s 10), xL (s 11), xI (s 12), xI (s 13), xI (s 14), xI (s 15), xR 76, xI (s 17), xI (s 18), xI (s 19), xI (s 20), xI (s 21), xI (s 22), xR 77, xR 78, xR 79, xR 80, xR 81, xR 82, xR 83, xI (s 30), xR 84, xR 85, xR 86, xR 87, xR 88, xR 89, xR 90]) := by rw [← e7]; exact H71
  refine wp_go rfl rfl ?_
  refine wp_go rfl rfl ?_
  refine e_get rfl H71p rfl rfl ?_
  refine e_put (fs' := [xR 72, xR 73, xR 74, xR 75, xI (s 4), xI (s 5), xI (s 6), xI (p : Int), xI (p : Int), xI (s 9), xI (s 10), xL (s 11), xI (s 12), xI (s 13), xI (s 14), xI (s 15), xR 76, xI (s 17), xI (s 18), xI (s 19), xI (s 20), xI (s 21), xI (s 22), xR 77, xR 78, xR 79, xR 80, xR 81, xR 82, xR 83, xI (s 30), xR 84, xR 85, xR 86, xR 87, xR 88, xR 89, xR 90]) rfl H71p rfl rfl ?_
  refine wp_go rfl rfl ?_
  refine wp_go rfl rfl ?_
  refine e_get rfl rfl rfl rfl ?_
  refine wp_cv rfl rfl rfl rfl rfl rfl rfl ?_
  refine c_mbyte (s := hc_u (hc_u s 7 (p : Int)) 8 (p : Int)) (p := p) hn rfl e4 H75 ?_
  obtain ⟨c, hc⟩ : ∃ z, bt B n p = z := ⟨_, rfl⟩
  rw [hc]
  refine e_istn (L' := [xR 71, xI c, none]) rfl rfl rfl ?_
  refine wp_go rfl rfl ?_
  refine e_ifge rfl (fun c57 => ?_) (fun c57 => ?_)
  · skip
    have hc1 : ¬ c = -1 := by omega
    have hpn : p < n := by rcases Nat.lt_or_ge p n with z | z; exact z; exact absurd (hc.symm.trans ((bt_m1 H hn).2 z)) hc1
    refine wp_go rfl rfl ?_
    refine wp_call rfl rfl rfl rfl ?_
    refine c_misD  (fun q69 => ?_) (fun q69 => ?_)
    · skip
      refine wp_go rfl rfl ?_
      have hcL : isLe c = false := by have := of_decide_eq_true q69; unfold isLe; exact decide_eq_false (by omega)
      refine wp_go rfl rfl ?_
      refine wp_go rfl rfl ?_
      refine e_put (fs' := [xR 72, xR 73, xR 74, xR 75, xI (s 4), xI (s 5), xI (s 6), xI (p : Int), xI (p : Int), xI 1, xI (s 10), xL (s 11), xI (s 12), xI (s 13), xI (s 14), xI (s 15), xR 76, xI (s 17), xI (s 18), xI (s 19), xI (s 20), xI (s 21), xI (s 22), xR 77, xR 78, xR 79, xR 80, xR 81, xR 82, xR 83, xI (s 30), xR 84, xR 85, xR 86, xR 87, xR 88, xR 89, xR 90]) rfl rfl rfl rfl ?_
      refine wp_go rfl rfl ?_
      refine wp_go rfl rfl ?_
      refine e_put (fs' := [xR 72, xR 73, xR 74, xR 75, xI (s 4), xI (s 5), xI (s 6), xI (p : Int), xI (p : Int), xI 1, xI 0, xL (s 11), xI (s 12), xI (s 13), xI (s 14), xI (s 15), xR 76, xI (s 17), xI (s 18), xI (s 19), xI (s 20), xI (s 21), xI (s 22), xR 77, xR 78, xR 79, xR 80, xR 81, xR 82, xR 83, xI (s 30), xR 84, xR 85, xR 86, xR 87, xR 88, xR 89, xR 90]) rfl rfl rfl rfl ?_
      refine l_nt2 (d := d) (c := c) (s0 := hc_u (hc_u (hc_u (hc_u s 7 (p : Int)) 8 (p : Int)) 9 1) 10 0) hn 300 p 0 0 (hc_u (hc_u (hc_u (hc_u s 7 (p : Int)) 8 (p : Int)) 9 1) 10 0) _ rfl e4 rfl rfl (by omega) (by omega) H75 ME.rf Fr.rf (fun h2 s2 nu2 A1 A2 A3 A4 A5 A6 => ?_)
      refine wp_ret rfl rfl ?_
      have hk1 : tkk B n p = 3 := by unfold tkk; rw [hc, if_neg hc1, if_neg (nt hcL), if_pos q69]
      have hk2 : tkn B n p = dgv B n 300 p 0 := by unfold tkn; rw [hc, if_pos q69]
      have hk3 : tke B n p = rne isDi B n 300 p := by unfold tke; rw [hc, if_neg hc1, if_neg (nt hcL), if_pos q69]
      refine k h2 s2 A1 ⟨(A5 4 rfl).trans e4, ?_, (A5 8 rfl).trans (congrArg (fun z : Nat => (z : Int)) hp), ?_, fun _ => ?_⟩ ((((((HM.u (a := 7) rfl).u (a := 8) rfl).u (a := 9) rfl).u (a := 10) rfl)).tr (A5.mono (nin_sub rfl)) (fun _ z => z)) ((((HF.wr rfl).wr rfl).wr rfl).tr A6 (fun _ z => z))
      · rw [tat_s, ← hp, hk3]; exact A2
      · rw [(A5 9 rfl).trans rfl]
        show mkd 1 (s2 11) = tkk B n (tP B n i)
        rw [← hp, hk1]; rfl
      · show 0 ≤ s2 10 ∧ ((s2 10 ≤ 9999 ∧ tkn B n (tP B n i) = s2 10) ∨ (9999 < s2 10 ∧ tkn B n (tP B n i) = 10000))
        rw [A3, ← hp, hk2]
        omega
    · skip
      refine wp_go rfl rfl ?_
      refine wp_go rfl rfl ?_
      refine wp_call rfl rfl rfl rfl ?_
      refine c_misL  (fun q145 => ?_) (fun q145 => ?_)
      · skip
        refine wp_go rfl rfl ?_
        refine wp_go rfl rfl ?_
        refine wp_go rfl rfl ?_
        refine e_put (fs' := [xR 72, xR 73, xR 74, xR 75, xI (s 4), xI (s 5), xI (s 6), xI (p : Int), xI (p : Int), xI 2, xI (s 10), xL (s 11), xI (s 12), xI (s 13), xI (s 14), xI (s 15), xR 76, xI (s 17), xI (s 18), xI (s 19), xI (s 20), xI (s 21), xI (s 22), xR 77, xR 78, xR 79, xR 80, xR 81, xR 82, xR 83, xI (s 30), xR 84, xR 85, xR 86, xR 87, xR 88, xR 89, xR 90]) rfl rfl rfl rfl ?_
        refine wp_go rfl rfl ?_
        refine e_lconst 0 rfl rfl ?_
        refine e_put (fs' := [xR 72, xR 73, xR 74, xR 75, xI (s 4), xI (s 5), xI (s 6), xI (p : Int), xI (p : Int), xI 2, xI (s 10), xL 0, xI (s 12), xI (s 13), xI (s 14), xI (s 15), xR 76, xI (s 17), xI (s 18), xI (s 19), xI (s 20), xI (s 21), xI (s 22), xR 77, xR 78, xR 79, xR 80, xR 81, xR 82, xR 83, xI (s 30), xR 84, xR 85, xR 86, xR 87, xR 88, xR 89, xR 90]) rfl rfl rfl rfl ?_
        have hcl2 : 65 ≤ c ∧ c ≤ 122 := by have := of_decide_eq_true q145; omega
        refine l_nt3 (d := d) (p := p) (c := c) (s0 := hc_u (hc_u (hc_u (hc_u s 7 (p : Int)) 8 (p : Int)) 9 2) 11 0) hn 300 p 0 (hc_u (hc_u (hc_u (hc_u s 7 (p : Int)) 8 (p : Int)) 9 2) 11 0) _ rfl e4 rfl rfl rfl (by omega) (fun _ => by rw [Nat.sub_self]; rfl) (fun k2 hk2 => absurd hk2 (by omega)) trivial H75 ME.rf Fr.rf (fun h2 s2 x2 A1 A2 A3 A4 A5 A6 A7 A8 => ?_)
        have hr := rne_pos (B := B) (n := n) (p := p) le_k (by rw [hc]; exact q145)
        obtain ⟨e, he⟩ : ∃ z, z = rne isLe B n 300 p := ⟨_, rfl⟩
        rw [← he] at A2 A5 A6 hr
        have hk1 : tkk B n p = wkd B n p e 20 10 := by unfold tkk; rw [hc, if_neg hc1, if_pos q145, he]
        have hk3 : tke B n p = e := by unfold tke; rw [hc, if_neg hc1, if_pos q145, he]
        obtain ⟨L, hL⟩ : ∃ z, z = e - p := ⟨_, rfl⟩
        have heL : e = p + L := by omega
        refine wp_go rfl rfl ?_
        refine e_get rfl A1 rfl rfl ?_
        refine wp_go rfl rfl ?_
        refine e_get rfl A1 rfl rfl ?_
        refine e_isub rfl (by omega) ?_
        refine wp_go rfl rfl ?_
        refine e_cle rfl (fun c234 => ?_) (fun c234 => ?_)
        · refine wp_ret rfl rfl ?_
          have hx : x2 = pw B n p L := by rw [hL]; exact A5 (by omega)
          have hb : ∀ k2, k2 < L → 65 ≤ bt B n (p + k2) ∧ bt B n (p + k2) ≤ 122 := fun k2 h2 => A6 k2 (by omega)
          have hw : wkd B n p e 20 10 = wkp x2 := by
            refine wkd_wkp (fun w h1 h2 => ?_)
            rw [heL, hx]
            exact wd_all (by omega) (by omega) hb h1 h2
          refine k h2 s2 A1 ⟨(A7 4 rfl).trans e4, ?_, A3.trans (congrArg (fun z : Nat => (z : Int)) hp), ?_, fun z => ?_⟩ ((((((HM.u (a := 7) rfl).u (a := 8) rfl).u (a := 9) rfl).u (a := 11) rfl)).tr (A7.mono (nin_sub rfl)) (fun _ z => z)) ((((HF.wr rfl).wr rfl).wr rfl).tr A8 (fun _ z => z))
          · rw [tat_s, ← hp, hk3]; exact A2
          · rw [(A7 9 rfl).trans rfl, A4]
            show mkd 2 x2 = tkk B n (tP B n i)
            rw [← hp, hk1, hw]; rfl
          · rw [(A7 9 rfl).trans rfl] at z
            exact absurd z (by show ¬ (2 : Int) = 1; decide)
        · refine wp_go rfl rfl ?_
          refine e_lconst 0 rfl rfl ?_
          refine e_put (fs' := _) rfl A1 rfl rfl ?_
          refine wp_go rfl rfl ?_
          refine wp_ret rfl rfl ?_
          have hw : wkd B n p e 20 10 = wkp 0 := by
            refine wkd_wkp (fun w h1 h2 => ?_)
            rw [heL, wd_big (by omega) ⟨h1, h2⟩]
            have : ∀ w : Fin 30, 10 ≤ w.1 → cw w.1 ≠ 0 := by decide
            exact (decide_eq_false (fun z => this ⟨w, h2⟩ h1 z.symm)).symm
          refine k _ (hc_u s2 11 0) rfl ⟨(A7 4 rfl).trans e4, ?_, A3.trans (congrArg (fun z : Nat => (z : Int)) hp), ?_, fun z => ?_⟩ (((((((HM.u (a := 7) rfl).u (a := 8) rfl).u (a := 9) rfl).u (a := 11) rfl)).tr (A7.mono (nin_sub rfl)) (fun _ z => z)).u rfl) (((((HF.wr rfl).wr rfl).wr rfl).tr A8 (fun _ z => z)).wr rfl)
          · rw [tat_s, ← hp, hk3]; exact A2
          · show mkd (s2 9) 0 = tkk B n (tP B n i)
            rw [(A7 9 rfl).trans rfl, ← hp, hk1, hw]; rfl
          · rw [show hc_u s2 11 0 9 = s2 9 from rfl, (A7 9 rfl).trans rfl] at z
            exact absurd z (by show ¬ (2 : Int) = 1; decide)
      · skip
        refine wp_go rfl rfl ?_
        refine wp_go rfl rfl ?_
        refine wp_go rfl rfl ?_
        refine e_get rfl rfl rfl rfl ?_
        refine wp_go rfl rfl ?_
        refine e_iadd rfl (by omega) ?_
        refine e_put (fs' := [xR 72, xR 73, xR 74, xR 75, xI (s 4), xI (s 5), xI (s 6), xI ((p : Int) + 1), xI (p : Int), xI (s 9), xI (s 10), xL (s 11), xI (s 12), xI (s 13), xI (s 14), xI (s 15), xR 76, xI (s 17), xI (s 18), xI (s 19), xI (s 20), xI (s 21), xI (s 22), xR 77, xR 78, xR 79, xR 80, xR 81, xR 82, xR 83, xI (s 30), xR 84, xR 85, xR 86, xR 87, xR 88, xR 89, xR 90]) rfl rfl rfl rfl ?_
        refine wp_go rfl rfl ?_
        refine wp_go rfl rfl ?_
        refine e_ceq rfl (fun c258 => ?_) (fun c258 => ?_)
        · skip
          refine wp_go rfl rfl ?_
          refine wp_go rfl rfl ?_
          exact l_sg1 (s := hc_u (hc_u s 8 (p : Int)) 7 ((p : Int) + 1)) H hn hp hc hc1 q145 q69 (by omega) (by omega) rfl e4 rfl (congrArg (fun z : Nat => (z : Int)) hp) H75 ((HM.u rfl).u rfl) ((HF.wr rfl).wr rfl) k
        · skip
          refine wp_go rfl rfl ?_
          refine wp_go rfl rfl ?_
          refine e_ceq rfl (fun c264 => ?_) (fun c264 => ?_)
          · skip
            refine wp_go rfl rfl ?_
            refine wp_go rfl rfl ?_
            exact l_sg1 (s := hc_u (hc_u s 8 (p : Int)) 7 ((p : Int) + 1)) H hn hp hc hc1 q145 q69 (by omega) (by omega) rfl e4 rfl (congrArg (fun z : Nat => (z : Int)) hp) H75 ((HM.u rfl).u rfl) ((HF.wr rfl).wr rfl) k
          · skip
            refine wp_go rfl rfl ?_
            refine wp_go rfl rfl ?_
            refine e_ceq rfl (fun c270 => ?_) (fun c270 => ?_)
            · skip
              refine wp_go rfl rfl ?_
              refine wp_go rfl rfl ?_
              exact l_sg1 (s := hc_u (hc_u s 8 (p : Int)) 7 ((p : Int) + 1)) H hn hp hc hc1 q145 q69 (by omega) (by omega) rfl e4 rfl (congrArg (fun z : Nat => (z : Int)) hp) H75 ((HM.u rfl).u rfl) ((HF.wr rfl).wr rfl) k
            · skip
              refine wp_go rfl rfl ?_
              refine wp_go rfl rfl ?_
              refine e_ceq rfl (fun c276 => ?_) (fun c276 => ?_)
              · skip
                refine wp_go rfl rfl ?_
                refine wp_go rfl rfl ?_
                exact l_sg1 (s := hc_u (hc_u s 8 (p : Int)) 7 ((p : Int) + 1)) H hn hp hc hc1 q145 q69 (by omega) (by omega) rfl e4 rfl (congrArg (fun z : Nat => (z : Int)) hp) H75 ((HM.u rfl).u rfl) ((HF.wr rfl).wr rfl) k
              · skip
                refine wp_go rfl rfl ?_
                refine wp_go rfl rfl ?_
                refine e_ceq rfl (fun c282 => ?_) (fun c282 => ?_)
                · skip
                  refine wp_go rfl rfl ?_
                  refine wp_go rfl rfl ?_
                  exact l_sg1 (s := hc_u (hc_u s 8 (p : Int)) 7 ((p : Int) + 1)) H hn hp hc hc1 q145 q69 (by omega) (by omega) rfl e4 rfl (congrArg (fun z : Nat => (z : Int)) hp) H75 ((HM.u rfl).u rfl) ((HF.wr rfl).wr rfl) k
                · skip
                  refine wp_go rfl rfl ?_
                  refine wp_go rfl rfl ?_
                  refine e_ceq rfl (fun c288 => ?_) (fun c288 => ?_)
                  · skip
                    refine wp_go rfl rfl ?_
                    refine wp_go rfl rfl ?_
                    exact l_sg1 (s := hc_u (hc_u s 8 (p : Int)) 7 ((p : Int) + 1)) H hn hp hc hc1 q145 q69 (by omega) (by omega) rfl e4 rfl (congrArg (fun z : Nat => (z : Int)) hp) H75 ((HM.u rfl).u rfl) ((HF.wr rfl).wr rfl) k
                  · skip
                    refine wp_go rfl rfl ?_
                    refine wp_go rfl rfl ?_
                    refine e_ceq rfl (fun c294 => ?_) (fun c294 => ?_)
                    · skip
                      refine wp_go rfl rfl ?_
                      refine wp_go rfl rfl ?_
                      exact l_sg1 (s := hc_u (hc_u s 8 (p : Int)) 7 ((p : Int) + 1)) H hn hp hc hc1 q145 q69 (by omega) (by omega) rfl e4 rfl (congrArg (fun z : Nat => (z : Int)) hp) H75 ((HM.u rfl).u rfl) ((HF.wr rfl).wr rfl) k
                    · skip
                      refine wp_go rfl rfl ?_
                      refine wp_go rfl rfl ?_
                      refine e_ceq rfl (fun c300 => ?_) (fun c300 => ?_)
                      · skip
                        refine wp_go rfl rfl ?_
                        refine wp_go rfl rfl ?_
                        exact l_sg1 (s := hc_u (hc_u s 8 (p : Int)) 7 ((p : Int) + 1)) H hn hp hc hc1 q145 q69 (by omega) (by omega) rfl e4 rfl (congrArg (fun z : Nat => (z : Int)) hp) H75 ((HM.u rfl).u rfl) ((HF.wr rfl).wr rfl) k
                      · skip
                        refine wp_go rfl rfl ?_
                        refine wp_go rfl rfl ?_
                        refine e_ceq rfl (fun c306 => ?_) (fun c306 => ?_)
                        · skip
                          refine wp_go rfl rfl ?_
                          refine wp_go rfl rfl ?_
                          exact l_sg1 (s := hc_u (hc_u s 8 (p : Int)) 7 ((p : Int) + 1)) H hn hp hc hc1 q145 q69 (by omega) (by omega) rfl e4 rfl (congrArg (fun z : Nat => (z : Int)) hp) H75 ((HM.u rfl).u rfl) ((HF.wr rfl).wr rfl) k
                        · skip
                          refine wp_go rfl rfl ?_
                          refine wp_go rfl rfl ?_
                          refine e_ceq rfl (fun c312 => ?_) (fun c312 => ?_)
                          · skip
                            refine wp_go rfl rfl ?_
                            refine wp_go rfl rfl ?_
                            exact l_sg1 (s := hc_u (hc_u s 8 (p : Int)) 7 ((p : Int) + 1)) H hn hp hc hc1 q145 q69 (by omega) (by omega) rfl e4 rfl (congrArg (fun z : Nat => (z : Int)) hp) H75 ((HM.u rfl).u rfl) ((HF.wr rfl).wr rfl) k
                          · skip
                            refine wp_go rfl rfl ?_
                            refine wp_go rfl rfl ?_
                            refine e_ceq rfl (fun c318 => ?_) (fun c318 => ?_)
                            · skip
                              refine wp_go rfl rfl ?_
                              refine wp_go rfl rfl ?_
                              exact l_sg1 (s := hc_u (hc_u s 8 (p : Int)) 7 ((p : Int) + 1)) H hn hp hc hc1 q145 q69 (by omega) (by omega) rfl e4 rfl (congrArg (fun z : Nat => (z : Int)) hp) H75 ((HM.u rfl).u rfl) ((HF.wr rfl).wr rfl) k
                            · skip
                              refine wp_go rfl rfl ?_
                              refine wp_go rfl rfl ?_
                              refine e_ceq rfl (fun c324 => ?_) (fun c324 => ?_)
                              · skip
                                refine wp_go rfl rfl ?_
                                refine wp_go rfl rfl ?_
                                exact l_sg1 (s := hc_u (hc_u s 8 (p : Int)) 7 ((p : Int) + 1)) H hn hp hc hc1 q145 q69 (by omega) (by omega) rfl e4 rfl (congrArg (fun z : Nat => (z : Int)) hp) H75 ((HM.u rfl).u rfl) ((HF.wr rfl).wr rfl) k
                              · skip
                                refine wp_go rfl rfl ?_
                                refine wp_go rfl rfl ?_
                                refine e_ceq rfl (fun c330 => ?_) (fun c330 => ?_)
                                · skip
                                  refine wp_go rfl rfl ?_
                                  refine wp_go rfl rfl ?_
                                  exact l_sg1 (s := hc_u (hc_u s 8 (p : Int)) 7 ((p : Int) + 1)) H hn hp hc hc1 q145 q69 (by omega) (by omega) rfl e4 rfl (congrArg (fun z : Nat => (z : Int)) hp) H75 ((HM.u rfl).u rfl) ((HF.wr rfl).wr rfl) k
                                · skip
                                  refine wp_go rfl rfl ?_
                                  refine wp_go rfl rfl ?_
                                  refine e_cne rfl (fun c336 => ?_) (fun c336 => ?_)
                                  · skip
                                    refine wp_go rfl rfl ?_
                                    exact l_sg0 (s := hc_u (hc_u s 8 (p : Int)) 7 ((p : Int) + 1)) H hn hp hc hc1 q145 q69 (by omega) (by omega) rfl e4 rfl (congrArg (fun z : Nat => (z : Int)) hp) H75 ((HM.u rfl).u rfl) ((HF.wr rfl).wr rfl) k
                                  · skip
                                    refine wp_go rfl rfl ?_
                                    refine wp_go rfl rfl ?_
                                    exact l_sg1 (s := hc_u (hc_u s 8 (p : Int)) 7 ((p : Int) + 1)) H hn hp hc hc1 q145 q69 (by omega) (by omega) rfl e4 rfl (congrArg (fun z : Nat => (z : Int)) hp) H75 ((HM.u rfl).u rfl) ((HF.wr rfl).wr rfl) k
  · skip
    refine wp_go rfl rfl ?_
    refine wp_go rfl rfl ?_
    refine e_put (fs' := [xR 72, xR 73, xR 74, xR 75, xI (s 4), xI (s 5), xI (s 6), xI (p : Int), xI (p : Int), xI 0, xI (s 10), xL (s 11), xI (s 12), xI (s 13), xI (s 14), xI (s 15), xR 76, xI (s 17), xI (s 18), xI (s 19), xI (s 20), xI (s 21), xI (s 22), xR 77, xR 78, xR 79, xR 80, xR 81, xR 82, xR 83, xI (s 30), xR 84, xR 85, xR 86, xR 87, xR 88, xR 89, xR 90]) rfl rfl rfl rfl ?_
    refine wp_go rfl rfl ?_
    refine wp_ret rfl rfl ?_
    have hk1 : tkk B n p = 0 := by unfold tkk; rw [if_pos (by omega)]
    have hk3 : tke B n p = p := by unfold tke; rw [if_pos (by omega)]
    refine k _ (hc_u (hc_u (hc_u s 7 (p : Int)) 8 (p : Int)) 9 0) rfl ⟨e4, ?_, congrArg (fun z : Nat => (z : Int)) hp, ?_, fun z => absurd (show (0 : Int) = 1 from z) (by decide)⟩ (((HM.u rfl).u rfl).u rfl) ((HF.wr rfl).wr rfl)
    · rw [tat_s, ← hp, hk3]; rfl
    · show mkd 0 (s 11) = tkk B n (tP B n i)
      rw [← hp, hk1]; rfl
theorem c_nextT {d : Nat} {h : hc_H} {Q : List hc_V → hc_H → Prop} {n i : Nat} {B s : Nat → Int} (H : BY B) (hn : n ≤ 300) (H71 : h.2.2 71 = mo s) (e4 : s 4 = (n : Int)) (e7 : s 7 = ((tat B n i : Nat) : Int)) (H75 : h.2.2 75 = ar 300 B) (k : ∀ h2 s2, h2.2.2 71 = mo s2 → TA B n s2 i → ME [7, 8, 9, 10, 11] s s2 → Fr [71] h h2 → Q [] h2) : hc_wp (d + 2) mX10_nextToken 0 [xR 71, none, none] [] h Q := by
  have hb := tat_bd (B := B) H hn i
  refine l_nt1 (d := d) (s0 := s) hn 300 (tat B n i) s h H71 e4 e7 (by omega) H75 ME.rf Fr.rf (fun h2 s2 A1 A2 A3 A4 => ?_)
  exact l_nt39 H hn rfl (tP_bd H hn i).2 A1 ((A3 4 rfl).trans e4) A2 ((A4.2.2 75 rfl).trans H75) (A3.mono (nin_sub rfl)) A4 k
