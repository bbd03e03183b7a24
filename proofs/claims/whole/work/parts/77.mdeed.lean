/-! the reference: deeds -/
set_option maxRecDepth 100000 in
theorem c_payment {d : Nat} {h : hc_H} {Q : List hc_V → hc_H → Prop} {B : Nat → Int} {n i x0 : Nat} {r : Option (Int × Nat)} {s T : Nat → Int} (H : BY B) (hn : n ≤ 300) (H71 : h.2.2 71 = mo s) (H74 : h.2.2 74 = ar 2720 T) (H75 : h.2.2 75 = ar 300 B) (hTA : TA B n s (i + 1)) (hx : x0 + 2 < 2720) (hsp : cN (tK B n) (tN B n) 1 99 (i + 1) (cX (tK B n) 15 (i + 2) (cN (tK B n) (tN B n) 1 99 (i + 3) (cX (tK B n) 16 (i + 4) (cN (tK B n) (tN B n) 0 7 (i + 5) (cX (tK B n) 17 (i + 6) (cN (tK B n) (tN B n) 0 7 (i + 7) none)))))) = r) (kok : r = none → ∀ (h2 : hc_H) (s2 T2 : Nat → Int), h2.2.2 71 = mo s2 → h2.2.2 74 = ar 2720 T2 → TA B n s2 (i + 8) → T2 (x0 + 1) = 100 * tN B n (i + 1) + tN B n (i + 3) → T2 (x0 + 2) = 8 * tN B n (i + 5) + tN B n (i + 7) → (∀ a, a ≠ x0 + 1 → a ≠ x0 + 2 → T2 a = T a) → ME [7, 8, 9, 10, 11, 21] s s2 → Fr [71, 74] h h2 → Q [xI 0] h2) (kf : ∀ (fl : Int) (k : Nat), r = some (fl, k) → ∀ (h2 : hc_H) (s2 T2 : Nat → Int), h2.2.2 71 = mo s2 → h2.2.2 74 = ar 2720 T2 → s2 8 = ((tP B n k : Nat) : Int) → fl ≠ 0 → (∀ a, a ≠ x0 + 1 → a ≠ x0 + 2 → T2 a = T a) → ME [7, 8, 9, 10, 11, 21] s s2 → Fr [71, 74] h h2 → Q [xI fl] h2) : hc_wp (d + 5) mX10_payment 0 [xR 71, xI (x0 : Int), none, none, none] [] h Q := by
  have b1 := tN_bd (B := B) (n := n) (i := i + 1)
  have b3 := tN_bd (B := B) (n := n) (i := i + 3)
  have b5 := tN_bd (B := B) (n := n) (i := i + 5)
  have b7 := tN_bd (B := B) (n := n) (i := i + 7)
  refine wp_go rfl rfl ?_
  refine wp_go rfl rfl ?_
  refine wp_go rfl rfl ?_
  refine wp_cv rfl rfl rfl H71 rfl rfl rfl ?_
  refine c_figure (i := i + 1) H hn (by decide) H71 H75 hTA (fun z1 => ?_) (fun y1 z1 => ?_) (fun y1 z1 h1 s1 A1 B1 R1 M1 F1 => ?_)
  · skip
    rw [cN, if_neg z1] at hsp
    refine e_istn (L' := [xR 71, xI (x0 : Int), xI 1, none, none]) rfl rfl rfl ?_
    refine wp_go rfl rfl ?_
    refine wp_go rfl rfl ?_
    refine wp_go rfl rfl ?_
    refine wp_ret rfl rfl ?_
    exact kf _ _ hsp.symm _ s _ H71 H74 hTA.2.2.1 (by decide) (fun a ha1 ha2 => rfl) ME.rf Fr.rf
  · skip
    rw [cN, if_pos y1, if_neg z1] at hsp
    refine e_istn (L' := [xR 71, xI (x0 : Int), xI 2, none, none]) rfl rfl rfl ?_
    refine wp_go rfl rfl ?_
    refine wp_go rfl rfl ?_
    refine wp_go rfl rfl ?_
    refine wp_ret rfl rfl ?_
    exact kf _ _ hsp.symm _ s _ H71 H74 hTA.2.2.1 (by decide) (fun a ha1 ha2 => rfl) ME.rf Fr.rf
  · skip
    rw [cN, if_pos y1, if_pos z1] at hsp
    have P1 : h1.2.2 71 = .inr (10, [xR 72, xR 73, xR 74, xR 75, xI (s1 4), xI (s1 5), xI (s1 6), xI (s1 7), xI (s1 8), xI (s1 9), xI (s1 10), xL (s1 11), xI (s1 12), xI (s1 13), xI (s1 14), xI (s1 15), xR 76, xI (s1 17), xI (s1 18), xI (s1 19), xI (s1 20), xI (tN B n (i + 1)), xI (s1 22), xR 77, xR 78, xR 79, xR 80, xR 81, xR 82, xR 83, xI (s1 30), xR 84, xR 85, xR 86, xR 87, xR 88, xR 89, xR 90]) := by rw [← R1]; exact A1
    refine e_istn (L' := [xR 71, xI (x0 : Int), xI 0, none, none]) rfl rfl rfl ?_
    refine wp_go rfl rfl ?_
    refine wp_go rfl rfl ?_
    refine wp_go rfl rfl ?_
    refine wp_go rfl rfl ?_
    refine e_get rfl P1 rfl rfl ?_
    refine e_imul rfl (by omega) ?_
    refine e_istn (L' := [xR 71, xI (x0 : Int), xI 0, xI (100 * (tN B n (i + 1))), none]) rfl rfl rfl ?_
    refine wp_go rfl rfl ?_
    refine e_get rfl P1 rfl rfl ?_
    refine wp_go rfl rfl ?_
    refine e_cne rfl (fun c27 => ?_) (fun c27 => ?_)
    · skip
      rw [cX, if_neg (fun z => c27 ((mkw_15 B1.2.2.2.1).2 z).1)] at hsp
      refine wp_go rfl rfl ?_
      refine wp_ret rfl rfl ?_
      exact kf _ _ hsp.symm _ s1 _ A1 ((F1.2.2 74 rfl).trans H74) B1.2.2.1 (by decide) (fun a ha1 ha2 => rfl) (ME.rf.tr (M1.mono (nin_sub rfl)) (fun _ z => z)) (Fr.rf.tr (Fr.mono F1 (nin_sub rfl)) (fun _ z => z))
    · skip
      refine wp_go rfl rfl ?_
      refine e_get rfl P1 rfl rfl ?_
      refine e_ldc2 (28518) rfl rfl ?_
      refine wp_go rfl rfl ?_
      refine e_ifeq rfl (fun c38 => ?_) (fun c38 => ?_)
      · skip
        rw [cX, if_pos ((mkw_15 B1.2.2.2.1).1 ⟨c27, k3_eq.1 c38⟩)] at hsp
        refine wp_go rfl rfl ?_
        refine wp_cv rfl rfl rfl P1 rfl rfl rfl ?_
        refine c_nextT (i := i + 3) H hn A1 B1.1 B1.2.1 ((F1.2.2 75 rfl).trans H75) (fun h2 s2 A2 B2 M2 F2 => ?_)
        refine wp_go rfl rfl ?_
        refine wp_go rfl rfl ?_
        refine wp_go rfl rfl ?_
        refine wp_cv rfl rfl rfl A2 rfl rfl rfl ?_
        refine c_figure (i := i + 3) H hn (by decide) A2 ((F2.2.2 75 rfl).trans ((F1.2.2 75 rfl).trans H75)) B2 (fun z3 => ?_) (fun y3 z3 => ?_) (fun y3 z3 h3 s3 A3 B3 R3 M3 F3 => ?_)
        · skip
          rw [cN, if_neg z3] at hsp
          refine e_istn (L' := [xR 71, xI (x0 : Int), xI 1, xI (100 * (tN B n (i + 1))), none]) rfl rfl rfl ?_
          refine wp_go rfl rfl ?_
          refine wp_go rfl rfl ?_
          refine wp_go rfl rfl ?_
          refine wp_ret rfl rfl ?_
          exact kf _ _ hsp.symm _ s2 _ A2 ((F2.2.2 74 rfl).trans ((F1.2.2 74 rfl).trans H74)) B2.2.2.1 (by decide) (fun a ha1 ha2 => rfl) ((ME.rf.tr (M1.mono (nin_sub rfl)) (fun _ z => z)).tr (M2.mono (nin_sub rfl)) (fun _ z => z)) ((Fr.rf.tr (Fr.mono F1 (nin_sub rfl)) (fun _ z => z)).tr (Fr.mono F2 (nin_sub rfl)) (fun _ z => z))
        · skip
          rw [cN, if_pos y3, if_neg z3] at hsp
          refine e_istn (L' := [xR 71, xI (x0 : Int), xI 2, xI (100 * (tN B n (i + 1))), none]) rfl rfl rfl ?_
          refine wp_go rfl rfl ?_
          refine wp_go rfl rfl ?_
          refine wp_go rfl rfl ?_
          refine wp_ret rfl rfl ?_
          exact kf _ _ hsp.symm _ s2 _ A2 ((F2.2.2 74 rfl).trans ((F1.2.2 74 rfl).trans H74)) B2.2.2.1 (by decide) (fun a ha1 ha2 => rfl) ((ME.rf.tr (M1.mono (nin_sub rfl)) (fun _ z => z)).tr (M2.mono (nin_sub rfl)) (fun _ z => z)) ((Fr.rf.tr (Fr.mono F1 (nin_sub rfl)) (fun _ z => z)).tr (Fr.mono F2 (nin_sub rfl)) (fun _ z => z))
        · skip
          rw [cN, if_pos y3, if_pos z3] at hsp
          have P3 : h3.2.2 71 = .inr (10, [xR 72, xR 73, xR 74, xR 75, xI (s3 4), xI (s3 5), xI (s3 6), xI (s3 7), xI (s3 8), xI (s3 9), xI (s3 10), xL (s3 11), xI (s3 12), xI (s3 13), xI (s3 14), xI (s3 15), xR 76, xI (s3 17), xI (s3 18), xI (s3 19), xI (s3 20), xI (tN B n (i + 3)), xI (s3 22), xR 77, xR 78, xR 79, xR 80, xR 81, xR 82, xR 83, xI (s3 30), xR 84, xR 85, xR 86, xR 87, xR 88, xR 89, xR 90]) := by rw [← R3]; exact A3
          refine e_istn (L' := [xR 71, xI (x0 : Int), xI 0, xI (100 * (tN B n (i + 1))), none]) rfl rfl rfl ?_
          refine wp_go rfl rfl ?_
          refine wp_go rfl rfl ?_
          refine wp_go rfl rfl ?_
          refine e_get rfl P3 rfl rfl ?_
          refine wp_go rfl rfl ?_
          refine wp_go rfl rfl ?_
          refine e_iadd rfl (by omega) ?_
          refine wp_go rfl rfl ?_
          refine wp_go rfl rfl ?_
          refine e_get rfl P3 rfl rfl ?_
          refine e_iadd rfl (by omega) ?_
          refine e_iastE (p := (x0 + 1)) rfl ((F3.2.2 74 rfl).trans ((F2.2.2 74 rfl).trans ((F1.2.2 74 rfl).trans H74))) ⟨by omega, by omega⟩ ?_
          refine wp_go rfl rfl ?_
          refine wp_go rfl rfl ?_
          refine wp_go rfl rfl ?_
          refine wp_go rfl rfl ?_
          refine wp_go rfl rfl ?_
          refine wp_go rfl rfl ?_
          refine wp_call rfl rfl rfl rfl ?_
          refine c_w4 (r1 := 6713967) (r := 1718775661) (by decide +kernel) (by decide +kernel) ?_
          refine wp_cv rfl rfl rfl P3 rfl rfl rfl ?_
          refine c_isWord A3 (fun q88 => ?_) (fun q88 => ?_)
          · skip
            have k16 := (mkw_16 B3.2.2.2.1).1 q88
            rw [cX, if_pos k16] at hsp
            refine wp_cv rfl rfl rfl P3 rfl rfl rfl ?_
            refine c_person1 (i := i + 4) H hn A3 ((F3.2.2 75 rfl).trans ((F2.2.2 75 rfl).trans ((F1.2.2 75 rfl).trans H75))) B3 (fun fl4 e4 h4 s4 A4 B4 M4 F4 => ?_) (fun y4 z4 h4 s4 A4 B4 R4 M4 F4 => ?_)
            · skip
              have R4 := (M4 21 rfl).trans R3
              have P4 : h4.2.2 71 = .inr (10, [xR 72, xR 73, xR 74, xR 75, xI (s4 4), xI (s4 5), xI (s4 6), xI (s4 7), xI (s4 8), xI (s4 9), xI (s4 10), xL (s4 11), xI (s4 12), xI (s4 13), xI (s4 14), xI (s4 15), xR 76, xI (s4 17), xI (s4 18), xI (s4 19), xI (s4 20), xI (tN B n (i + 3)), xI (s4 22), xR 77, xR 78, xR 79, xR 80, xR 81, xR 82, xR 83, xI (s4 30), xR 84, xR 85, xR 86, xR 87, xR 88, xR 89, xR 90]) := by rw [← R4]; exact A4
              have g4 : some (fl4, i + 5) = r := by
                rcases e4 with e4 | e4
                · rw [cN, if_neg e4.2, ← e4.1] at hsp; exact hsp
                · rw [cN, if_pos e4.2.1, if_neg e4.2.2, ← e4.1] at hsp; exact hsp
              refine e_istn (L' := [xR 71, xI (x0 : Int), xI fl4, xI (100 * (tN B n (i + 1))), none]) rfl rfl rfl ?_
              refine wp_go rfl rfl ?_
              refine e_ifeq rfl (fun c96 => absurd c96 (by omega)) (fun c96 => ?_)
              refine wp_go rfl rfl ?_
              refine wp_ret rfl rfl ?_
              exact kf _ _ g4.symm _ s4 _ A4 ((F4.2.2 74 rfl).trans rfl) B4.2.2.1 (by omega) (fun a ha1 ha2 => ((hu_n (by omega)).trans rfl)) ((((ME.rf.tr (M1.mono (nin_sub rfl)) (fun _ z => z)).tr (M2.mono (nin_sub rfl)) (fun _ z => z)).tr (M3.mono (nin_sub rfl)) (fun _ z => z)).tr (M4.mono (nin_sub rfl)) (fun _ z => z)) (((((Fr.rf.tr (Fr.mono F1 (nin_sub rfl)) (fun _ z => z)).tr (Fr.mono F2 (nin_sub rfl)) (fun _ z => z)).tr (Fr.mono F3 (nin_sub rfl)) (fun _ z => z)).wr rfl).tr (Fr.mono F4 (nin_sub rfl)) (fun _ z => z))
            · skip
              rw [cN, if_pos y4, if_pos z4] at hsp
              have P4 : h4.2.2 71 = .inr (10, [xR 72, xR 73, xR 74, xR 75, xI (s4 4), xI (s4 5), xI (s4 6), xI (s4 7), xI (s4 8), xI (s4 9), xI (s4 10), xL (s4 11), xI (s4 12), xI (s4 13), xI (s4 14), xI (s4 15), xR 76, xI (s4 17), xI (s4 18), xI (s4 19), xI (s4 20), xI (tN B n (i + 5)), xI (s4 22), xR 77, xR 78, xR 79, xR 80, xR 81, xR 82, xR 83, xI (s4 30), xR 84, xR 85, xR 86, xR 87, xR 88, xR 89, xR 90]) := by rw [← R4]; exact A4
              refine e_istn (L' := [xR 71, xI (x0 : Int), xI 0, xI (100 * (tN B n (i + 1))), none]) rfl rfl rfl ?_
              refine wp_go rfl rfl ?_
              refine wp_go rfl rfl ?_
              refine wp_go rfl rfl ?_
              refine wp_go rfl rfl ?_
              refine e_get rfl P4 rfl rfl ?_
              refine e_imul rfl (by omega) ?_
              refine e_ist (L' := [xR 71, xI (x0 : Int), xI 0, xI (100 * (tN B n (i + 1))), xI (8 * (tN B n (i + 5)))]) rfl rfl rfl ?_
              refine wp_go rfl rfl ?_
              refine wp_go rfl rfl ?_
              refine wp_cv rfl rfl rfl P4 rfl rfl rfl ?_
              refine c_isTo A4 B4.2.2.2.1 (fun q112 => ?_) (fun q112 => ?_)
              · skip
                rw [cX, if_pos q112] at hsp
                refine wp_cv rfl rfl rfl P4 rfl rfl rfl ?_
                refine c_person1 (i := i + 6) H hn A4 ((F4.2.2 75 rfl).trans ((F3.2.2 75 rfl).trans ((F2.2.2 75 rfl).trans ((F1.2.2 75 rfl).trans H75)))) B4 (fun fl5 e5 h5 s5 A5 B5 M5 F5 => ?_) (fun y5 z5 h5 s5 A5 B5 R5 M5 F5 => ?_)
                · skip
                  have R5 := (M5 21 rfl).trans R4
                  have P5 : h5.2.2 71 = .inr (10, [xR 72, xR 73, xR 74, xR 75, xI (s5 4), xI (s5 5), xI (s5 6), xI (s5 7), xI (s5 8), xI (s5 9), xI (s5 10), xL (s5 11), xI (s5 12), xI (s5 13), xI (s5 14), xI (s5 15), xR 76, xI (s5 17), xI (s5 18), xI (s5 19), xI (s5 20), xI (tN B n (i + 5)), xI (s5 22), xR 77, xR 78, xR 79, xR 80, xR 81, xR 82, xR 83, xI (s5 30), xR 84, xR 85, xR 86, xR 87, xR 88, xR 89, xR 90]) := by rw [← R5]; exact A5
                  have g5 : some (fl5, i + 7) = r := by
                    rcases e5 with e5 | e5
                    · rw [cN, if_neg e5.2, ← e5.1] at hsp; exact hsp
                    · rw [cN, if_pos e5.2.1, if_neg e5.2.2, ← e5.1] at hsp; exact hsp
                  refine e_istn (L' := [xR 71, xI (x0 : Int), xI fl5, xI (100 * (tN B n (i + 1))), xI (8 * (tN B n (i + 5)))]) rfl rfl rfl ?_
                  refine wp_go rfl rfl ?_
                  refine e_get rfl P5 rfl rfl ?_
                  refine wp_go rfl rfl ?_
                  refine wp_go rfl rfl ?_
                  refine e_iadd rfl (by omega) ?_
                  refine wp_go rfl rfl ?_
                  refine wp_go rfl rfl ?_
                  refine e_get rfl P5 rfl rfl ?_
                  refine e_iadd rfl (by omega) ?_
                  refine e_iastE (p := (x0 + 2)) rfl ((F5.2.2 74 rfl).trans ((F4.2.2 74 rfl).trans rfl)) ⟨by omega, by omega⟩ ?_
                  refine wp_go rfl rfl ?_
                  refine wp_ret rfl rfl ?_
                  exact kf _ _ g5.symm _ s5 _ A5 rfl B5.2.2.1 (by omega) (fun a ha1 ha2 => ((hu_n (by omega)).trans ((hu_n (by omega)).trans rfl))) (((((ME.rf.tr (M1.mono (nin_sub rfl)) (fun _ z => z)).tr (M2.mono (nin_sub rfl)) (fun _ z => z)).tr (M3.mono (nin_sub rfl)) (fun _ z => z)).tr (M4.mono (nin_sub rfl)) (fun _ z => z)).tr (M5.mono (nin_sub rfl)) (fun _ z => z)) (((((((Fr.rf.tr (Fr.mono F1 (nin_sub rfl)) (fun _ z => z)).tr (Fr.mono F2 (nin_sub rfl)) (fun _ z => z)).tr (Fr.mono F3 (nin_sub rfl)) (fun _ z => z)).wr rfl).tr (Fr.mono F4 (nin_sub rfl)) (fun _ z => z)).tr (Fr.mono F5 (nin_sub rfl)) (fun _ z => z)).wr rfl)
                · skip
                  rw [cN, if_pos y5, if_pos z5] at hsp
                  have P5 : h5.2.2 71 = .inr (10, [xR 72, xR 73, xR 74, xR 75, xI (s5 4), xI (s5 5), xI (s5 6), xI (s5 7), xI (s5 8), xI (s5 9), xI (s5 10), xL (s5 11), xI (s5 12), xI (s5 13), xI (s5 14), xI (s5 15), xR 76, xI (s5 17), xI (s5 18), xI (s5 19), xI (s5 20), xI (tN B n (i + 7)), xI (s5 22), xR 77, xR 78, xR 79, xR 80, xR 81, xR 82, xR 83, xI (s5 30), xR 84, xR 85, xR 86, xR 87, xR 88, xR 89, xR 90]) := by rw [← R5]; exact A5
                  refine e_istn (L' := [xR 71, xI (x0 : Int), xI 0, xI (100 * (tN B n (i + 1))), xI (8 * (tN B n (i + 5)))]) rfl rfl rfl ?_
                  refine wp_go rfl rfl ?_
                  refine e_get rfl P5 rfl rfl ?_
                  refine wp_go rfl rfl ?_
                  refine wp_go rfl rfl ?_
                  refine e_iadd rfl (by omega) ?_
                  refine wp_go rfl rfl ?_
                  refine wp_go rfl rfl ?_
                  refine e_get rfl P5 rfl rfl ?_
                  refine e_iadd rfl (by omega) ?_
                  refine e_iastE (p := (x0 + 2)) rfl ((F5.2.2 74 rfl).trans ((F4.2.2 74 rfl).trans rfl)) ⟨by omega, by omega⟩ ?_
                  refine wp_go rfl rfl ?_
                  refine wp_ret rfl rfl ?_
                  exact kok hsp.symm _ s5 _ A5 rfl B5 ((hu_n (by omega)).trans hu_s) hu_s (fun a ha1 ha2 => ((hu_n (by omega)).trans ((hu_n (by omega)).trans rfl))) (((((ME.rf.tr (M1.mono (nin_sub rfl)) (fun _ z => z)).tr (M2.mono (nin_sub rfl)) (fun _ z => z)).tr (M3.mono (nin_sub rfl)) (fun _ z => z)).tr (M4.mono (nin_sub rfl)) (fun _ z => z)).tr (M5.mono (nin_sub rfl)) (fun _ z => z)) (((((((Fr.rf.tr (Fr.mono F1 (nin_sub rfl)) (fun _ z => z)).tr (Fr.mono F2 (nin_sub rfl)) (fun _ z => z)).tr (Fr.mono F3 (nin_sub rfl)) (fun _ z => z)).wr rfl).tr (Fr.mono F4 (nin_sub rfl)) (fun _ z => z)).tr (Fr.mono F5 (nin_sub rfl)) (fun _ z => z)).wr rfl)
              · skip
                rw [cX, if_neg q112] at hsp
                refine wp_cv rfl rfl rfl P4 rfl rfl rfl ?_
                refine c_person0 ?_
                refine e_istn (L' := [xR 71, xI (x0 : Int), xI 1, xI (100 * (tN B n (i + 1))), xI (8 * (tN B n (i + 5)))]) rfl rfl rfl ?_
                refine wp_go rfl rfl ?_
                refine e_get rfl P4 rfl rfl ?_
                refine wp_go rfl rfl ?_
                refine wp_go rfl rfl ?_
                refine e_iadd rfl (by omega) ?_
                refine wp_go rfl rfl ?_
                refine wp_go rfl rfl ?_
                refine e_get rfl P4 rfl rfl ?_
                refine e_iadd rfl (by omega) ?_
                refine e_iastE (p := (x0 + 2)) rfl ((F4.2.2 74 rfl).trans rfl) ⟨by omega, by omega⟩ ?_
                refine wp_go rfl rfl ?_
                refine wp_ret rfl rfl ?_
                exact kf _ _ hsp.symm _ s4 _ A4 rfl B4.2.2.1 (by decide) (fun a ha1 ha2 => ((hu_n (by omega)).trans ((hu_n (by omega)).trans rfl))) ((((ME.rf.tr (M1.mono (nin_sub rfl)) (fun _ z => z)).tr (M2.mono (nin_sub rfl)) (fun _ z => z)).tr (M3.mono (nin_sub rfl)) (fun _ z => z)).tr (M4.mono (nin_sub rfl)) (fun _ z => z)) ((((((Fr.rf.tr (Fr.mono F1 (nin_sub rfl)) (fun _ z => z)).tr (Fr.mono F2 (nin_sub rfl)) (fun _ z => z)).tr (Fr.mono F3 (nin_sub rfl)) (fun _ z => z)).wr rfl).tr (Fr.mono F4 (nin_sub rfl)) (fun _ z => z)).wr rfl)
          · skip
            rw [cX, if_neg (fun z => q88 ((mkw_16 B3.2.2.2.1).2 z))] at hsp
            refine wp_cv rfl rfl rfl P3 rfl rfl rfl ?_
            refine c_person0 ?_
            refine e_istn (L' := [xR 71, xI (x0 : Int), xI 1, xI (100 * (tN B n (i + 1))), none]) rfl rfl rfl ?_
            refine wp_go rfl rfl ?_
            refine wp_go rfl rfl ?_
            refine wp_go rfl rfl ?_
            refine wp_ret rfl rfl ?_
            exact kf _ _ hsp.symm _ s3 _ A3 rfl B3.2.2.1 (by decide) (fun a ha1 ha2 => ((hu_n (by omega)).trans rfl)) (((ME.rf.tr (M1.mono (nin_sub rfl)) (fun _ z => z)).tr (M2.mono (nin_sub rfl)) (fun _ z => z)).tr (M3.mono (nin_sub rfl)) (fun _ z => z)) ((((Fr.rf.tr (Fr.mono F1 (nin_sub rfl)) (fun _ z => z)).tr (Fr.mono F2 (nin_sub rfl)) (fun _ z => z)).tr (Fr.mono F3 (nin_sub rfl)) (fun _ z => z)).wr rfl)
      · skip
        rw [cX, if_neg (fun z => c38 (k3_eq.2 ((mkw_15 B1.2.2.2.1).2 z).2))] at hsp
        refine wp_go rfl rfl ?_
        refine wp_ret rfl rfl ?_
        exact kf _ _ hsp.symm _ s1 _ A1 ((F1.2.2 74 rfl).trans H74) B1.2.2.1 (by decide) (fun a ha1 ha2 => rfl) (ME.rf.tr (M1.mono (nin_sub rfl)) (fun _ z => z)) (Fr.rf.tr (Fr.mono F1 (nin_sub rfl)) (fun _ z => z))
