/-! the reference: lines, one clause -/
def sNZ (r : sR) : Prop := ∀ (fl : Int) (k : Nat), r = some (.inl (fl, k)) → fl ≠ 0
theorem sNZ_b {a : sR} {k : Nat → ef → sR} (H : sNZ a) (hk : ∀ j w, sNZ (k j w)) : sNZ (sb a k) := by
  match a, H with
  | none, _ => intro fl k e; cases e
  | some (.inl x), H => intro fl k e; exact H fl k e
  | some (.inr (j, w)), _ => exact hk j w
theorem sNZ_F {f : Int} {i : Nat} (h : f ≠ 0) : sNZ (sF f i) := by
  intro fl k e
  cases e
  exact h
theorem sNZ_O {i : Nat} {w : ef} : sNZ (sO i w) := by
  intro fl k e
  cases e
theorem sP_nz {K N : Nat → Int} {law : Int} : ∀ (f m o : Nat) (v : ef) (i : Nat), m ≤ 9 → sNZ (sP K N law f m o v i) := by
  intro f
  induction f with
  | zero => intro m o v i _ fl k e; cases e
  | succ f ih =>
    intro m o v i hm
    match m, hm with
    | 0, _ =>
      rw [sP_0]
      repeat' (first | exact sNZ_O | exact sNZ_F (by decide) | exact ih _ _ _ _ (by decide) | refine sNZ_b (ih _ _ _ _ (by decide)) (fun j w => ?_) | split)
    | 1, _ =>
      rw [sP_1]
      repeat' (first | exact sNZ_O | exact sNZ_F (by decide) | exact ih _ _ _ _ (by decide) | refine sNZ_b (ih _ _ _ _ (by decide)) (fun j w => ?_) | split)
    | 2, _ =>
      rw [sP_2]
      repeat' (first | exact sNZ_O | exact sNZ_F (by decide) | exact ih _ _ _ _ (by decide) | refine sNZ_b (ih _ _ _ _ (by decide)) (fun j w => ?_) | split)
    | 3, _ =>
      rw [sP_3]
      repeat' (first | exact sNZ_O | exact sNZ_F (by decide) | exact ih _ _ _ _ (by decide) | refine sNZ_b (ih _ _ _ _ (by decide)) (fun j w => ?_) | split)
    | 4, _ =>
      rw [sP_4]
      repeat' (first | exact sNZ_O | exact sNZ_F (by decide) | exact ih _ _ _ _ (by decide) | refine sNZ_b (ih _ _ _ _ (by decide)) (fun j w => ?_) | split)
    | 5, _ =>
      rw [sP_5]
      repeat' (first | exact sNZ_O | exact sNZ_F (by decide) | exact ih _ _ _ _ (by decide) | refine sNZ_b (ih _ _ _ _ (by decide)) (fun j w => ?_) | split)
    | 6, _ =>
      rw [sP_6]
      repeat' (first | exact sNZ_O | exact sNZ_F (by decide) | exact ih _ _ _ _ (by decide) | refine sNZ_b (ih _ _ _ _ (by decide)) (fun j w => ?_) | split)
    | 7, _ =>
      rw [sP_7]
      repeat' (first | exact sNZ_O | exact sNZ_F (by decide) | exact ih _ _ _ _ (by decide) | refine sNZ_b (ih _ _ _ _ (by decide)) (fun j w => ?_) | split)
    | 8, _ =>
      rw [sP_8]
      repeat' (first | exact sNZ_O | exact sNZ_F (by decide) | exact ih _ _ _ _ (by decide) | refine sNZ_b (ih _ _ _ _ (by decide)) (fun j w => ?_) | split)
    | 9, _ =>
      rw [sP_9]
      repeat' (first | exact sNZ_O | exact sNZ_F (by decide) | exact ih _ _ _ _ (by decide) | refine sNZ_b (ih _ _ _ _ (by decide)) (fun j w => ?_) | split)
    | m + 10, h => exact absurd h (by omega)
set_option maxRecDepth 100000 in
theorem c_line2 {d : Nat} {h : hc_H} {Q : List hc_V → hc_H → Prop} {B : Nat → Int} {n i x0 : Nat} {r : Option (Int × Nat)} {s T : Nat → Int} (H : BY B) (hn : n ≤ 300) (H71 : h.2.2 71 = mo s) (H74 : h.2.2 74 = ar 2720 T) (H75 : h.2.2 75 = ar 300 B) (hTA : TA B n s (i + 1)) (hx : x0 + 2 < 2720) (hk : tK B n i = 12) (hsp : sDe (tK B n) (tN B n) i = r) (kok : r = none → ∀ (h2 : hc_H) (s2 T2 : Nat → Int), h2.2.2 71 = mo s2 → h2.2.2 74 = ar 2720 T2 → TA B n s2 (i + 8) → T2 (x0 + 1) = 100 * tN B n (i + 1) + tN B n (i + 3) → T2 (x0 + 2) = 8 * tN B n (i + 5) + tN B n (i + 7) → (∀ a, a ≠ x0 + 1 → a ≠ x0 + 2 → T2 a = T a) → ME [7, 8, 9, 10, 11, 21] s s2 → Fr [71, 74] h h2 → Q [xI 0] h2) (kf : ∀ (fl : Int) (k : Nat), r = some (fl, k) → ∀ (h2 : hc_H) (s2 T2 : Nat → Int), h2.2.2 71 = mo s2 → h2.2.2 74 = ar 2720 T2 → s2 8 = ((tP B n k : Nat) : Int) → fl ≠ 0 → (∀ a, a ≠ x0 + 1 → a ≠ x0 + 2 → T2 a = T a) → ME [7, 8, 9, 10, 11, 21] s s2 → Fr [71, 74] h h2 → Q [xI fl] h2) : hc_wp (d + 6) mX10_line 0 [xR 71, xI 2, xI (x0 : Int), none] [] h Q := by
  have b1 := tN_bd (B := B) (n := n) (i := i + 1)
  have b3 := tN_bd (B := B) (n := n) (i := i + 3)
  have b5 := tN_bd (B := B) (n := n) (i := i + 5)
  have b7 := tN_bd (B := B) (n := n) (i := i + 7)
  refine wp_go rfl rfl ?_
  refine wp_go rfl rfl ?_
  refine wp_go rfl rfl ?_
  refine wp_go rfl rfl ?_
  refine wp_go rfl rfl ?_
  refine wp_cv rfl rfl rfl H71 rfl rfl rfl ?_
  rw [sDe, if_pos hk] at hsp
  refine c_payment (i := i) (x0 := x0) H hn H71 H74 H75 hTA hx hsp (fun e h2 s2 T2 A1 A2 A3 A4 A5 A6 A7 A8 => ?_) (fun fl k e h2 s2 T2 A1 A2 A3 A4 A5 A6 A7 => ?_)
  · skip
    refine wp_ret rfl rfl ?_
    exact kok e h2 s2 T2 A1 A2 A3 A4 A5 A6 A7 A8
  · skip
    refine wp_ret rfl rfl ?_
    exact kf fl k e h2 s2 T2 A1 A2 A3 A4 A5 A6 A7
set_option maxRecDepth 100000 in
theorem c_line3 {d : Nat} {h : hc_H} {Q : List hc_V → hc_H → Prop} {B : Nat → Int} {n i x0 : Nat} {r : Option (Int × Nat)} {s T : Nat → Int} (H : BY B) (hn : n ≤ 300) (H71 : h.2.2 71 = mo s) (H74 : h.2.2 74 = ar 2720 T) (H75 : h.2.2 75 = ar 300 B) (hTA : TA B n s (i + 1)) (hx : x0 + 2 < 2720) (hk : tK B n i = 13) (hsp : sDe (tK B n) (tN B n) i = r) (kok : r = none → ∀ (h2 : hc_H) (s2 T2 : Nat → Int), h2.2.2 71 = mo s2 → h2.2.2 74 = ar 2720 T2 → TA B n s2 (i + 4) → T2 (x0 + 1) = tN B n (i + 1) → T2 (x0 + 2) = tN B n (i + 3) → (∀ a, a ≠ x0 + 1 → a ≠ x0 + 2 → T2 a = T a) → ME [7, 8, 9, 10, 11, 21] s s2 → Fr [71, 74] h h2 → Q [xI 0] h2) (kf : ∀ (fl : Int) (k : Nat), r = some (fl, k) → ∀ (h2 : hc_H) (s2 T2 : Nat → Int), h2.2.2 71 = mo s2 → h2.2.2 74 = ar 2720 T2 → s2 8 = ((tP B n k : Nat) : Int) → fl ≠ 0 → (∀ a, a ≠ x0 + 1 → a ≠ x0 + 2 → T2 a = T a) → ME [7, 8, 9, 10, 11, 21] s s2 → Fr [71, 74] h h2 → Q [xI fl] h2) : hc_wp (d + 6) mX10_line 0 [xR 71, xI 3, xI (x0 : Int), none] [] h Q := by
  have b1 := tN_bd (B := B) (n := n) (i := i + 1)
  have b3 := tN_bd (B := B) (n := n) (i := i + 3)
  have b5 := tN_bd (B := B) (n := n) (i := i + 5)
  have b7 := tN_bd (B := B) (n := n) (i := i + 7)
  rw [sDe, if_neg (by omega), if_pos hk] at hsp
  refine wp_go rfl rfl ?_
  refine wp_go rfl rfl ?_
  refine wp_go rfl rfl ?_
  refine wp_go rfl rfl ?_
  refine wp_go rfl rfl ?_
  refine wp_go rfl rfl ?_
  refine wp_go rfl rfl ?_
  refine wp_go rfl rfl ?_
  refine wp_go rfl rfl ?_
  refine wp_cv rfl rfl rfl H71 rfl rfl rfl ?_
  refine c_figure (i := i + 1) H hn (by decide) H71 H75 hTA (fun z6 => ?_) (fun y6 z6 => ?_) (fun y6 z6 h6 s6 A6 B6 R6 M6 F6 => ?_)
  · skip
    rw [cN, if_neg z6] at hsp
    refine e_istn (L' := [xR 71, xI 3, xI (x0 : Int), xI 1]) rfl rfl rfl ?_
    refine wp_go rfl rfl ?_
    refine wp_go rfl rfl ?_
    refine wp_go rfl rfl ?_
    refine wp_ret rfl rfl ?_
    exact kf _ _ hsp.symm _ s _ H71 H74 hTA.2.2.1 (by decide) (fun a ha1 ha2 => rfl) ME.rf Fr.rf
  · skip
    rw [cN, if_pos y6, if_neg z6] at hsp
    refine e_istn (L' := [xR 71, xI 3, xI (x0 : Int), xI 2]) rfl rfl rfl ?_
    refine wp_go rfl rfl ?_
    refine wp_go rfl rfl ?_
    refine wp_go rfl rfl ?_
    refine wp_ret rfl rfl ?_
    exact kf _ _ hsp.symm _ s _ H71 H74 hTA.2.2.1 (by decide) (fun a ha1 ha2 => rfl) ME.rf Fr.rf
  · skip
    rw [cN, if_pos y6, if_pos z6] at hsp
    have P6 : h6.2.2 71 = .inr (10, [xR 72, xR 73, xR 74, xR 75, xI (s6 4), xI (s6 5), xI (s6 6), xI (s6 7), xI (s6 8), xI (s6 9), xI (s6 10), xL (s6 11), xI (s6 12), xI (s6 13), xI (s6 14), xI (s6 15), xR 76, xI (s6 17), xI (s6 18), xI (s6 19), xI (s6 20), xI (tN B n (i + 1)), xI (s6 22), xR 77, xR 78, xR 79, xR 80, xR 81, xR 82, xR 83, xI (s6 30), xR 84, xR 85, xR 86, xR 87, xR 88, xR 89, xR 90]) := by rw [← R6]; exact A6
    refine e_istn (L' := [xR 71, xI 3, xI (x0 : Int), xI 0]) rfl rfl rfl ?_
    refine wp_go rfl rfl ?_
    refine wp_go rfl rfl ?_
    refine wp_go rfl rfl ?_
    refine e_get rfl P6 rfl rfl ?_
    refine wp_go rfl rfl ?_
    refine wp_go rfl rfl ?_
    refine e_iadd rfl (by omega) ?_
    refine wp_go rfl rfl ?_
    refine e_get rfl P6 rfl rfl ?_
    refine e_iastE (p := (x0 + 1)) rfl ((F6.2.2 74 rfl).trans H74) ⟨by omega, by omega⟩ ?_
    refine wp_go rfl rfl ?_
    refine wp_go rfl rfl ?_
    refine wp_go rfl rfl ?_
    refine wp_go rfl rfl ?_
    refine wp_go rfl rfl ?_
    refine wp_cv rfl rfl rfl P6 rfl rfl rfl ?_
    refine c_isTo A6 B6.2.2.2.1 (fun q62 => ?_) (fun q62 => ?_)
    · skip
      rw [cX, if_pos q62] at hsp
      refine wp_cv rfl rfl rfl P6 rfl rfl rfl ?_
      refine c_person1 (i := i + 2) H hn A6 ((F6.2.2 75 rfl).trans H75) B6 (fun fl7 e7 h7 s7 A7 B7 M7 F7 => ?_) (fun y7 z7 h7 s7 A7 B7 R7 M7 F7 => ?_)
      · skip
        have R7 := (M7 21 rfl).trans R6
        have P7 : h7.2.2 71 = .inr (10, [xR 72, xR 73, xR 74, xR 75, xI (s7 4), xI (s7 5), xI (s7 6), xI (s7 7), xI (s7 8), xI (s7 9), xI (s7 10), xL (s7 11), xI (s7 12), xI (s7 13), xI (s7 14), xI (s7 15), xR 76, xI (s7 17), xI (s7 18), xI (s7 19), xI (s7 20), xI (tN B n (i + 1)), xI (s7 22), xR 77, xR 78, xR 79, xR 80, xR 81, xR 82, xR 83, xI (s7 30), xR 84, xR 85, xR 86, xR 87, xR 88, xR 89, xR 90]) := by rw [← R7]; exact A7
        have g7 : some (fl7, i + 3) = r := by
          rcases e7 with e7 | e7
          · rw [cN, if_neg e7.2, ← e7.1] at hsp; exact hsp
          · rw [cN, if_pos e7.2.1, if_neg e7.2.2, ← e7.1] at hsp; exact hsp
        refine e_istn (L' := [xR 71, xI 3, xI (x0 : Int), xI fl7]) rfl rfl rfl ?_
        refine wp_go rfl rfl ?_
        refine e_get rfl P7 rfl rfl ?_
        refine wp_go rfl rfl ?_
        refine wp_go rfl rfl ?_
        refine e_iadd rfl (by omega) ?_
        refine wp_go rfl rfl ?_
        refine e_get rfl P7 rfl rfl ?_
        refine e_iastE (p := (x0 + 2)) rfl ((F7.2.2 74 rfl).trans rfl) ⟨by omega, by omega⟩ ?_
        refine wp_go rfl rfl ?_
        refine wp_ret rfl rfl ?_
        exact kf _ _ g7.symm _ s7 _ A7 rfl B7.2.2.1 (by omega) (fun a ha1 ha2 => ((hu_n (by omega)).trans ((hu_n (by omega)).trans rfl))) ((ME.rf.tr (M6.mono (nin_sub rfl)) (fun _ z => z)).tr (M7.mono (nin_sub rfl)) (fun _ z => z)) ((((Fr.rf.tr (Fr.mono F6 (nin_sub rfl)) (fun _ z => z)).wr rfl).tr (Fr.mono F7 (nin_sub rfl)) (fun _ z => z)).wr rfl)
      · skip
        rw [cN, if_pos y7, if_pos z7] at hsp
        have P7 : h7.2.2 71 = .inr (10, [xR 72, xR 73, xR 74, xR 75, xI (s7 4), xI (s7 5), xI (s7 6), xI (s7 7), xI (s7 8), xI (s7 9), xI (s7 10), xL (s7 11), xI (s7 12), xI (s7 13), xI (s7 14), xI (s7 15), xR 76, xI (s7 17), xI (s7 18), xI (s7 19), xI (s7 20), xI (tN B n (i + 3)), xI (s7 22), xR 77, xR 78, xR 79, xR 80, xR 81, xR 82, xR 83, xI (s7 30), xR 84, xR 85, xR 86, xR 87, xR 88, xR 89, xR 90]) := by rw [← R7]; exact A7
        refine e_istn (L' := [xR 71, xI 3, xI (x0 : Int), xI 0]) rfl rfl rfl ?_
        refine wp_go rfl rfl ?_
        refine e_get rfl P7 rfl rfl ?_
        refine wp_go rfl rfl ?_
        refine wp_go rfl rfl ?_
        refine e_iadd rfl (by omega) ?_
        refine wp_go rfl rfl ?_
        refine e_get rfl P7 rfl rfl ?_
        refine e_iastE (p := (x0 + 2)) rfl ((F7.2.2 74 rfl).trans rfl) ⟨by omega, by omega⟩ ?_
        refine wp_go rfl rfl ?_
        refine wp_ret rfl rfl ?_
        exact kok hsp.symm _ s7 _ A7 rfl B7 ((hu_n (by omega)).trans hu_s) hu_s (fun a ha1 ha2 => ((hu_n (by omega)).trans ((hu_n (by omega)).trans rfl))) ((ME.rf.tr (M6.mono (nin_sub rfl)) (fun _ z => z)).tr (M7.mono (nin_sub rfl)) (fun _ z => z)) ((((Fr.rf.tr (Fr.mono F6 (nin_sub rfl)) (fun _ z => z)).wr rfl).tr (Fr.mono F7 (nin_sub rfl)) (fun _ z => z)).wr rfl)
    · skip
      rw [cX, if_neg q62] at hsp
      refine wp_cv rfl rfl rfl P6 rfl rfl rfl ?_
      refine c_person0 ?_
      refine e_istn (L' := [xR 71, xI 3, xI (x0 : Int), xI 1]) rfl rfl rfl ?_
      refine wp_go rfl rfl ?_
      refine e_get rfl P6 rfl rfl ?_
      refine wp_go rfl rfl ?_
      refine wp_go rfl rfl ?_
      refine e_iadd rfl (by omega) ?_
      refine wp_go rfl rfl ?_
      refine e_get rfl P6 rfl rfl ?_
      refine e_iastE (p := (x0 + 2)) rfl rfl ⟨by omega, by omega⟩ ?_
      refine wp_go rfl rfl ?_
      refine wp_ret rfl rfl ?_
      exact kf _ _ hsp.symm _ s6 _ A6 rfl B6.2.2.1 (by decide) (fun a ha1 ha2 => ((hu_n (by omega)).trans ((hu_n (by omega)).trans rfl))) (ME.rf.tr (M6.mono (nin_sub rfl)) (fun _ z => z)) (((Fr.rf.tr (Fr.mono F6 (nin_sub rfl)) (fun _ z => z)).wr rfl).wr rfl)
set_option maxRecDepth 100000 in
theorem c_line4 {d : Nat} {h : hc_H} {Q : List hc_V → hc_H → Prop} {B : Nat → Int} {n i x0 : Nat} {r : Option (Int × Nat)} {s T : Nat → Int} (H : BY B) (hn : n ≤ 300) (H71 : h.2.2 71 = mo s) (H74 : h.2.2 74 = ar 2720 T) (H75 : h.2.2 75 = ar 300 B) (hTA : TA B n s (i + 1)) (hx : x0 + 2 < 2720) (hk : tK B n i = 14) (hsp : sDe (tK B n) (tN B n) i = r) (kok : r = none → ∀ (h2 : hc_H) (s2 T2 : Nat → Int), h2.2.2 71 = mo s2 → h2.2.2 74 = ar 2720 T2 → TA B n s2 (i + 2) → T2 (x0 + 1) = tN B n (i + 1) → (∀ a, a ≠ x0 + 1 → a ≠ x0 + 2 → T2 a = T a) → ME [7, 8, 9, 10, 11, 21] s s2 → Fr [71, 74] h h2 → Q [xI 0] h2) (kf : ∀ (fl : Int) (k : Nat), r = some (fl, k) → ∀ (h2 : hc_H) (s2 T2 : Nat → Int), h2.2.2 71 = mo s2 → h2.2.2 74 = ar 2720 T2 → s2 8 = ((tP B n k : Nat) : Int) → fl ≠ 0 → (∀ a, a ≠ x0 + 1 → a ≠ x0 + 2 → T2 a = T a) → ME [7, 8, 9, 10, 11, 21] s s2 → Fr [71, 74] h h2 → Q [xI fl] h2) : hc_wp (d + 6) mX10_line 0 [xR 71, xI 4, xI (x0 : Int), none] [] h Q := by
  have b1 := tN_bd (B := B) (n := n) (i := i + 1)
  have b3 := tN_bd (B := B) (n := n) (i := i + 3)
  have b5 := tN_bd (B := B) (n := n) (i := i + 5)
  have b7 := tN_bd (B := B) (n := n) (i := i + 7)
  rw [sDe, if_neg (by omega), if_neg (by omega)] at hsp
  refine wp_go rfl rfl ?_
  refine wp_go rfl rfl ?_
  refine wp_go rfl rfl ?_
  refine wp_go rfl rfl ?_
  refine wp_go rfl rfl ?_
  refine wp_go rfl rfl ?_
  refine wp_go rfl rfl ?_
  refine wp_go rfl rfl ?_
  refine wp_go rfl rfl ?_
  refine wp_cv rfl rfl rfl H71 rfl rfl rfl ?_
  refine c_figure (i := i + 1) H hn (by decide) H71 H75 hTA (fun z8 => ?_) (fun y8 z8 => ?_) (fun y8 z8 h8 s8 A8 B8 R8 M8 F8 => ?_)
  · skip
    rw [cN, if_neg z8] at hsp
    refine wp_go rfl rfl ?_
    refine e_istn (L' := [xR 71, xI 4, xI (x0 : Int), xI 1]) rfl rfl rfl ?_
    refine wp_go rfl rfl ?_
    refine wp_go rfl rfl ?_
    refine wp_go rfl rfl ?_
    refine wp_ret rfl rfl ?_
    exact kf _ _ hsp.symm _ s _ H71 H74 hTA.2.2.1 (by decide) (fun a ha1 ha2 => rfl) ME.rf Fr.rf
  · skip
    rw [cN, if_pos y8, if_neg z8] at hsp
    refine wp_go rfl rfl ?_
    refine e_istn (L' := [xR 71, xI 4, xI (x0 : Int), xI 2]) rfl rfl rfl ?_
    refine wp_go rfl rfl ?_
    refine wp_go rfl rfl ?_
    refine wp_go rfl rfl ?_
    refine wp_ret rfl rfl ?_
    exact kf _ _ hsp.symm _ s _ H71 H74 hTA.2.2.1 (by decide) (fun a ha1 ha2 => rfl) ME.rf Fr.rf
  · skip
    rw [cN, if_pos y8, if_pos z8] at hsp
    have P8 : h8.2.2 71 = .inr (10, [xR 72, xR 73, xR 74, xR 75, xI (s8 4), xI (s8 5), xI (s8 6), xI (s8 7), xI (s8 8), xI (s8 9), xI (s8 10), xL (s8 11), xI (s8 12), xI (s8 13), xI (s8 14), xI (s8 15), xR 76, xI (s8 17), xI (s8 18), xI (s8 19), xI (s8 20), xI (tN B n (i + 1)), xI (s8 22), xR 77, xR 78, xR 79, xR 80, xR 81, xR 82, xR 83, xI (s8 30), xR 84, xR 85, xR 86, xR 87, xR 88, xR 89, xR 90]) := by rw [← R8]; exact A8
    refine wp_go rfl rfl ?_
    refine e_istn (L' := [xR 71, xI 4, xI (x0 : Int), xI 0]) rfl rfl rfl ?_
    refine wp_go rfl rfl ?_
    refine wp_go rfl rfl ?_
    refine wp_go rfl rfl ?_
    refine e_get rfl P8 rfl rfl ?_
    refine wp_go rfl rfl ?_
    refine wp_go rfl rfl ?_
    refine e_iadd rfl (by omega) ?_
    refine wp_go rfl rfl ?_
    refine e_get rfl P8 rfl rfl ?_
    refine e_iastE (p := (x0 + 1)) rfl ((F8.2.2 74 rfl).trans H74) ⟨by omega, by omega⟩ ?_
    refine wp_go rfl rfl ?_
    refine wp_go rfl rfl ?_
    refine wp_go rfl rfl ?_
    refine wp_go rfl rfl ?_
    refine wp_ret rfl rfl ?_
    exact kok hsp.symm _ s8 _ A8 rfl B8 hu_s (fun a ha1 ha2 => ((hu_n (by omega)).trans rfl)) (ME.rf.tr (M8.mono (nin_sub rfl)) (fun _ z => z)) ((Fr.rf.tr (Fr.mono F8 (nin_sub rfl)) (fun _ z => z)).wr rfl)
def onc (ft fr : Option ef) : Int := (if ft.isSome = true then 1 else 0) + (if fr.isSome = true then 2 else 0)
theorem onc_t {fr : Option ef} {V : ef} : hc_and (hc_shr (onc none fr) 0) 1 = 0 ∧ hc_and (hc_shr (onc (some V) fr) 0) 1 = 1 ∧ hc_or (onc none fr) (hc_shl 1 0) = onc (some V) fr := by
  cases fr with
  | none => exact ⟨(by decide : hc_and (hc_shr (0 + 0) 0) 1 = 0), (by decide : hc_and (hc_shr (1 + 0) 0) 1 = 1), (by decide : hc_or (0 + 0) (hc_shl 1 0) = 1 + 0)⟩
  | some _ => exact ⟨(by decide : hc_and (hc_shr (0 + 2) 0) 1 = 0), (by decide : hc_and (hc_shr (1 + 2) 0) 1 = 1), (by decide : hc_or (0 + 2) (hc_shl 1 0) = 1 + 2)⟩
theorem onc_r {ft : Option ef} {V : ef} : hc_and (hc_shr (onc ft none) 1) 1 = 0 ∧ hc_and (hc_shr (onc ft (some V)) 1) 1 = 1 ∧ hc_or (onc ft none) (hc_shl 1 1) = onc ft (some V) := by
  cases ft with
  | none => exact ⟨(by decide : hc_and (hc_shr (0 + 0) 1) 1 = 0), (by decide : hc_and (hc_shr (0 + 2) 1) 1 = 1), (by decide : hc_or (0 + 0) (hc_shl 1 1) = 0 + 2)⟩
  | some _ => exact ⟨(by decide : hc_and (hc_shr (1 + 0) 1) 1 = 0), (by decide : hc_and (hc_shr (1 + 2) 1) 1 = 1), (by decide : hc_or (1 + 0) (hc_shl 1 1) = 1 + 2)⟩
/-- what a clause's three places say -/
def CLM (K N T : Nat → Int) (x0 i : Nat) : Prop := T x0 = K i - 10 ∧ (K i = 12 → T (x0 + 1) = 100 * N (i + 1) + N (i + 3) ∧ T (x0 + 2) = 8 * N (i + 5) + N (i + 7)) ∧ (K i = 13 → T (x0 + 1) = N (i + 1) ∧ T (x0 + 2) = N (i + 3)) ∧ (K i = 14 → T (x0 + 1) = N (i + 1))
def LWM (K T : Nat → Int) (x0 c i w w2 : Nat) (ft fr : Option ef) : Prop := (K i = 10 → T (x0 + 1) = (w : Int) ∧ T (x0 + 2) = (w2 : Int) ∧ ∃ V, ft = some V ∧ PC 10 T c w w2 V false) ∧ (K i = 11 → T (x0 + 1) = (w : Int) ∧ T (x0 + 2) = (w2 : Int) ∧ ∃ V, fr = some V ∧ PC 11 T c w w2 V false)
abbrev mcl : List Nat := [7, 8, 9, 10, 11, 14, 17, 18, 19, 20, 21, 22]
theorem meC {s : Nat → Int} {t0 w : Int} {a b : Int} (e12 : s 12 = t0) (e14 : s 14 = w) : ME mcl s (hc_u (hc_u (hc_u (hc_u s 12 t0) 14 w) 22 a) 20 b) := by
  have h1 : ME mcl s (hc_u (hc_u s 12 t0) 14 w) := by
    intro k hk
    by_cases c : k = 14
    · rw [c, hu_s, e14]
    · by_cases c2 : k = 12
      · rw [hu_n c, c2, hu_s, e12]
      · rw [hu_n c, hu_n c2]
  exact (h1.u rfl).u rfl
set_option maxRecDepth 100000 in
theorem c_cl10 {d : Nat} {h : hc_H} {Q : List hc_V → hc_H → Prop} {B : Nat → Int} {n i w t0 nc : Nat} {v : ef} {ft fr : Option ef} {r : (Int × Nat) ⊕ (Nat × Option ef × Option ef)} {s T f : Nat → Int} (H : BY B) (hn : n ≤ 300) (hr : sCl (tK B n) (tN B n) v i nc ft fr = r) (H71 : h.2.2 71 = mo s) (H74 : h.2.2 74 = ar 2720 T) (H75 : h.2.2 75 = ar 300 B) (H76 : h.2.2 76 = ar 160 f) (hTA : TA B n s i) (e12 : s 12 = (t0 : Int)) (e14 : s 14 = (w : Int)) (e18 : s 18 = 0) (e22 : s 22 = onc ft fr) (hnc : T t0 = (nc : Int)) (hb : w ≤ i ∧ i ≤ 300 ∧ t0 ≤ 2040 ∧ nc ≤ 24) (hk : tK B n i = 10) (kok : ∀ (j : Nat) (ft2 fr2 : Option ef), r = .inr (j, ft2, fr2) → ∀ (h2 : hc_H) (s2 T2 f2 : Nat → Int) (w2 : Nat), h2.2.2 71 = mo s2 → h2.2.2 74 = ar 2720 T2 → h2.2.2 76 = ar 160 f2 → TA B n s2 j → s2 14 = (w2 : Int) → s2 18 = 0 → s2 22 = onc ft2 fr2 → T2 t0 = ((nc + 1 : Nat) : Int) → (j ≤ 300 ∧ w ≤ w2 ∧ w2 ≤ j ∧ nc < 24) → CLM (tK B n) (tN B n) T2 (t0 + 1 + 3 * nc) i → LWM (tK B n) T2 (t0 + 1 + 3 * nc) (t0 + 75) i w w2 ft2 fr2 → (∀ a, a < t0 ∨ t0 + 680 ≤ a ∨ (t0 < a ∧ a < t0 + 1 + 3 * nc) ∨ (t0 + 75 ≤ a ∧ a < t0 + 75 + 2 * w) → T2 a = T a) → ME mcl s s2 → Fr mfl h h2 → Q [xI 0] h2) (kf : ∀ (fl : Int) (k : Nat), r = .inl (fl, k) → ∀ (h2 : hc_H) (s2 T2 f2 : Nat → Int), h2.2.2 71 = mo s2 → h2.2.2 74 = ar 2720 T2 → h2.2.2 76 = ar 160 f2 → s2 8 = ((tP B n k : Nat) : Int) → fl ≠ 0 → (∀ a, a < t0 ∨ t0 + 680 ≤ a → T2 a = T a) → ME mcl s s2 → Fr mfl h h2 → Q [xI fl] h2) : hc_wp (d + 8) mX10_clause 0 [xR 71, none, none, none, none, none] [] h Q := by
  have hlt := tK_lt H hn (show tK B n i ≠ 0 by omega)
  match ft, hr, e22 with
  | some V9, hr, e22 =>
    have H71p : h.2.2 71 = .inr (10, [xR 72, xR 73, xR 74, xR 75, xI (s 4), xI (s 5), xI (s 6), xI (s 7), xI (s 8), xI (s 9), xI (s 10), xL (s 11), xI (t0 : Int), xI (s 13), xI (w : Int), xI (s 15), xR 76, xI (s 17), xI (s 18), xI (s 19), xI (s 20), xI (s 21), xI (onc (some V9) fr), xR 77, xR 78, xR 79, xR 80, xR 81, xR 82, xR 83, xI (s 30), xR 84, xR 85, xR 86, xR 87, xR 88, xR 89, xR 90]) := by rw [← e12, ← e14, ← e22]; exact H71
    refine wp_go rfl rfl ?_
    refine wp_cv rfl rfl rfl H71p rfl rfl rfl ?_
    refine c_sortOf H71 hTA.2.2.2.1 ?_
    rw [hk, show (if (10 : Int) ≤ 10 ∧ (10 : Int) ≤ 14 then (10 : Int) - 10 else -1) = 0 from rfl]
    refine e_istn (L' := [xR 71, xI 0, none, none, none, none]) rfl rfl rfl ?_
    refine wp_go rfl rfl ?_
    refine wp_go rfl rfl ?_
    refine wp_go rfl rfl ?_
    refine wp_go rfl rfl ?_
    refine wp_go rfl rfl ?_
    refine wp_go rfl rfl ?_
    refine e_get rfl H71p rfl rfl ?_
    refine wp_go rfl rfl ?_
    refine wp_go rfl rfl ?_
    refine wp_go rfl rfl ?_
    refine wp_go rfl rfl ?_
    rw [(onc_t (fr := fr) (V := V9)).2.1]
    refine wp_go rfl rfl ?_
    refine wp_go rfl rfl ?_
    refine wp_go rfl rfl ?_
    refine wp_ret rfl rfl ?_
    rw [sCl, if_neg (fun z => z (show 10 ≤ tK B n i ∧ tK B n i ≤ 14 by omega)), if_pos (Or.inl ⟨hk, rfl⟩)] at hr
    exact kf 4 i hr.symm h s T f H71 H74 H76 hTA.2.2.1 (by decide) (fun _ _ => rfl) ME.rf Fr.rf
  | none, hr, e22 =>
    have h4 : ¬ ((tK B n i = 10 ∧ (none : Option ef).isSome = true) ∨ (tK B n i = 11 ∧ fr.isSome = true)) := by simp [hk]
    have H71p : h.2.2 71 = .inr (10, [xR 72, xR 73, xR 74, xR 75, xI (s 4), xI (s 5), xI (s 6), xI (s 7), xI (s 8), xI (s 9), xI (s 10), xL (s 11), xI (t0 : Int), xI (s 13), xI (w : Int), xI (s 15), xR 76, xI (s 17), xI (s 18), xI (s 19), xI (s 20), xI (s 21), xI (onc none fr), xR 77, xR 78, xR 79, xR 80, xR 81, xR 82, xR 83, xI (s 30), xR 84, xR 85, xR 86, xR 87, xR 88, xR 89, xR 90]) := by rw [← e12, ← e14, ← e22]; exact H71
    refine wp_go rfl rfl ?_
    refine wp_cv rfl rfl rfl H71p rfl rfl rfl ?_
    refine c_sortOf H71 hTA.2.2.2.1 ?_
    rw [hk, show (if (10 : Int) ≤ 10 ∧ (10 : Int) ≤ 14 then (10 : Int) - 10 else -1) = 0 from rfl]
    refine e_istn (L' := [xR 71, xI 0, none, none, none, none]) rfl rfl rfl ?_
    refine wp_go rfl rfl ?_
    refine wp_go rfl rfl ?_
    refine wp_go rfl rfl ?_
    refine wp_go rfl rfl ?_
    refine wp_go rfl rfl ?_
    refine wp_go rfl rfl ?_
    refine e_get rfl H71p rfl rfl ?_
    refine wp_go rfl rfl ?_
    refine wp_go rfl rfl ?_
    refine wp_go rfl rfl ?_
    refine wp_go rfl rfl ?_
    rw [(onc_t (fr := fr) (V := cnv 0)).1]
    refine wp_go rfl rfl ?_
    refine wp_go rfl rfl ?_
    refine wp_go rfl rfl ?_
    refine e_get rfl H71p rfl rfl ?_
    refine wp_go rfl rfl ?_
    refine e_get rfl H71p rfl rfl ?_
    refine e_aldE (p := t0) rfl H74 rfl ⟨by omega, by omega⟩ ?_
    rw [hnc]
    refine e_istn (L' := [xR 71, xI 0, xI (nc : Int), none, none, none]) rfl rfl rfl ?_
    refine wp_go rfl rfl ?_
    refine wp_go rfl rfl ?_
    refine e_cne rfl (fun c43 => ?_) (fun c43 => ?_)
    · skip
      rw [sCl, if_neg (fun z => z (show 10 ≤ tK B n i ∧ tK B n i ≤ 14 by omega)), if_neg h4, if_neg (show ¬ 24 ≤ nc by omega)] at hr
      obtain ⟨q, hq, hqr⟩ := sP_tot (K := tK B n) (N := tN B n) (law := 10) (fun a ha => tK_big H hn ha) 4000 2 0 v (i + 1) (by decide) (by omega) (by have : rnk 2 = 4 := rfl; omega)
      rw [if_pos (show tK B n i ≤ 11 by omega), hk, hq] at hr
      obtain ⟨V0, hV0⟩ : ∃ V0 : ef, ∀ j V, q = .inr (j, V) → V0 = V := by
        match q with
        | .inl _ => exact ⟨cnv 0, fun j V e => by cases e⟩
        | .inr (j, V) => exact ⟨V, fun j2 V2 e => by cases e; rfl⟩
      refine wp_go rfl rfl ?_
      refine wp_go rfl rfl ?_
      refine wp_go rfl rfl ?_
      refine wp_go rfl rfl ?_
      refine wp_go rfl rfl ?_
      refine e_get rfl H71p rfl rfl ?_
      refine wp_go rfl rfl ?_
      refine wp_go rfl rfl ?_
      refine wp_go rfl rfl ?_
      refine wp_go rfl rfl ?_
      rw [(onc_t (fr := fr) (V := V0)).2.2]
      refine e_put (fs' := [xR 72, xR 73, xR 74, xR 75, xI (s 4), xI (s 5), xI (s 6), xI (s 7), xI (s 8), xI (s 9), xI (s 10), xL (s 11), xI (t0 : Int), xI (s 13), xI (w : Int), xI (s 15), xR 76, xI (s 17), xI (s 18), xI (s 19), xI (s 20), xI (s 21), xI (onc (some V0) fr), xR 77, xR 78, xR 79, xR 80, xR 81, xR 82, xR 83, xI (s 30), xR 84, xR 85, xR 86, xR 87, xR 88, xR 89, xR 90]) rfl H71p rfl rfl ?_
      refine wp_go rfl rfl ?_
      refine wp_go rfl rfl ?_
      refine e_put (fs' := [xR 72, xR 73, xR 74, xR 75, xI (s 4), xI (s 5), xI (s 6), xI (s 7), xI (s 8), xI (s 9), xI (s 10), xL (s 11), xI (t0 : Int), xI (s 13), xI (w : Int), xI (s 15), xR 76, xI (s 17), xI (s 18), xI (s 19), xI 0, xI (s 21), xI (onc (some V0) fr), xR 77, xR 78, xR 79, xR 80, xR 81, xR 82, xR 83, xI (s 30), xR 84, xR 85, xR 86, xR 87, xR 88, xR 89, xR 90]) rfl rfl rfl rfl ?_
      refine wp_go rfl rfl ?_
      refine wp_cv rfl rfl rfl rfl rfl rfl rfl ?_
      refine c_nextT (i := i + 1) (s := (hc_u (hc_u (hc_u (hc_u s 12 (t0 : Int)) 14 (w : Int)) 22 (onc (some V0) fr)) 20 0)) H hn rfl hTA.1 hTA.2.1 H75 (fun h1 s1 A71 A1 AME AFR => ?_)
      have B12 : s1 12 = (t0 : Int) := (AME 12 rfl).trans rfl
      have B14 : s1 14 = (w : Int) := (AME 14 rfl).trans rfl
      have B71 : h1.2.2 71 = .inr (10, [xR 72, xR 73, xR 74, xR 75, xI (s1 4), xI (s1 5), xI (s1 6), xI (s1 7), xI (s1 8), xI (s1 9), xI (s1 10), xL (s1 11), xI (t0 : Int), xI (s1 13), xI (w : Int), xI (s1 15), xR 76, xI (s1 17), xI (s1 18), xI (s1 19), xI (s1 20), xI (s1 21), xI (s1 22), xR 77, xR 78, xR 79, xR 80, xR 81, xR 82, xR 83, xI (s1 30), xR 84, xR 85, xR 86, xR 87, xR 88, xR 89, xR 90]) := by rw [← B12, ← B14]; exact A71
      have B75 := (AFR.2.2 75 rfl).trans H75
      have B76 := (AFR.2.2 76 rfl).trans H76
      have B74 := (AFR.2.2 74 rfl).trans H74
      have m1 : ME mcl s s1 := ME.tr (l1 := mcl) (fun k hk2 => meC e12 e14 k hk2) (AME.mono (nin_sub rfl)) (fun _ z => z)
      refine wp_go rfl rfl ?_
      refine e_get rfl B71 rfl rfl ?_
      refine wp_go rfl rfl ?_
      refine e_iadd rfl (by omega) ?_
      refine wp_go rfl rfl ?_
      refine wp_go rfl rfl ?_
      refine e_imul rfl (by omega) ?_
      refine e_iadd rfl (by omega) ?_
      refine e_istn (L' := [xR 71, xI 0, xI (nc : Int), xI (((t0 : Int) + 1) + (3 * (nc : Int))), none, none]) rfl rfl rfl ?_
      refine wp_go rfl rfl ?_
      refine e_get rfl B71 rfl rfl ?_
      refine wp_go rfl rfl ?_
      refine wp_go rfl rfl ?_
      refine e_iastE (p := t0 + 1 + 3 * nc) rfl B74 ⟨by omega, by omega⟩ ?_
      refine wp_go rfl rfl ?_
      refine e_get rfl B71 rfl rfl ?_
      refine e_ist (L' := [xR 71, xI 0, xI (nc : Int), xI (((t0 : Int) + 1) + (3 * (nc : Int))), xI (w : Int), none]) rfl rfl rfl ?_
      refine wp_go rfl rfl ?_
      refine wp_go rfl rfl ?_
      refine wp_go rfl rfl ?_
      refine wp_go rfl rfl ?_
      refine wp_go rfl rfl ?_
      refine wp_cv rfl rfl rfl B71 rfl rfl rfl ?_
      refine c_parsed (d := d + 1) (t0 := t0) (w := w) H hn (lw := 10) (by decide) hq (s := s1) A71 rfl B75 B76 A1 B12 B14 ((AME 18 rfl).trans e18) ((AME 20 rfl).trans rfl) (by omega) (fun j V e h2 s2 T2 f2 w2 C71 C74 C76 C1 C14 C18 CPC CB CTS CME CFR => ?_) (fun fl k e h2 s2 T2 f2 C71 C74 C76 C8 CME CTS CFR => ?_)
      · skip
        subst e
        have D12 : s2 12 = (t0 : Int) := (CME 12 rfl).trans B12
        have D71 : h2.2.2 71 = .inr (10, [xR 72, xR 73, xR 74, xR 75, xI (s2 4), xI (s2 5), xI (s2 6), xI (s2 7), xI (s2 8), xI (s2 9), xI (s2 10), xL (s2 11), xI (t0 : Int), xI (s2 13), xI (w2 : Int), xI (s2 15), xR 76, xI (s2 17), xI (s2 18), xI (s2 19), xI (s2 20), xI (s2 21), xI (s2 22), xR 77, xR 78, xR 79, xR 80, xR 81, xR 82, xR 83, xI (s2 30), xR 84, xR 85, xR 86, xR 87, xR 88, xR 89, xR 90]) := by rw [← D12, ← C14]; exact C71
        have hw2 := CPC.1
        have T2x : T2 (t0 + 1 + 3 * nc) = 0 := (CTS _ (by omega)).trans hu_s
        have T2n : T2 t0 = (nc : Int) := (CTS _ (by omega)).trans ((hu_n (by omega)).trans hnc)
        refine wp_go rfl rfl ?_
        refine e_ist (L' := [xR 71, xI 0, xI (nc : Int), xI (((t0 : Int) + 1) + (3 * (nc : Int))), xI (w : Int), xI 0]) rfl rfl rfl ?_
        refine wp_go rfl rfl ?_
        refine wp_go rfl rfl ?_
        refine wp_go rfl rfl ?_
        refine wp_go rfl rfl ?_
        refine wp_go rfl rfl ?_
        refine wp_go rfl rfl ?_
        refine e_get rfl D71 rfl rfl ?_
        refine wp_go rfl rfl ?_
        refine wp_go rfl rfl ?_
        refine e_iadd rfl (by omega) ?_
        refine wp_go rfl rfl ?_
        refine e_iastE (p := t0 + 1 + 3 * nc + 1) rfl C74 ⟨by omega, by omega⟩ ?_
        refine wp_go rfl rfl ?_
        refine e_get rfl D71 rfl rfl ?_
        refine wp_go rfl rfl ?_
        refine wp_go rfl rfl ?_
        refine e_iadd rfl (by omega) ?_
        refine wp_go rfl rfl ?_
        refine e_get rfl D71 rfl rfl ?_
        refine e_iastE (p := t0 + 1 + 3 * nc + 2) rfl rfl ⟨by omega, by omega⟩ ?_
        refine wp_go rfl rfl ?_
        refine e_get rfl D71 rfl rfl ?_
        refine wp_go rfl rfl ?_
        refine e_get rfl D71 rfl rfl ?_
        refine wp_go rfl rfl ?_
        refine e_aldE (p := t0) rfl rfl rfl ⟨by omega, by omega⟩ ?_
        rw [show (hc_u (hc_u T2 (t0 + 1 + 3 * nc + 1) (w : Int)) (t0 + 1 + 3 * nc + 2) (w2 : Int)) t0 = (nc : Int) from ((hu_n (by omega)).trans ((hu_n (by omega)).trans T2n))]
        refine wp_go rfl rfl ?_
        refine e_iadd rfl (by omega) ?_
        refine e_iastE (p := t0) rfl rfl ⟨by omega, by omega⟩ ?_
        refine wp_go rfl rfl ?_
        refine e_get rfl D71 rfl rfl ?_
        refine wp_go rfl rfl ?_
        refine e_ceq rfl (fun c174 => ?_) (fun c174 => ?_)
        · skip
          refine wp_go rfl rfl ?_
          refine wp_cv rfl rfl rfl D71 rfl rfl rfl ?_
          refine c_nextT (i := j + 1) (s := s2) H hn C71 C1.1 C1.2.1 ((CFR.2.2 75 rfl).trans B75) (fun h3 s3 G71 G1 GME GFR => ?_)
          refine wp_go rfl rfl ?_
          refine wp_ret rfl rfl ?_
          have z52 : tK B n j = 52 := (mks_52 C1.2.2.2.1).1 c174
          have hl2 := tK_lt H hn (show tK B n j ≠ 0 by rw [z52]; decide)
          dsimp only at hr
          rw [if_pos z52] at hr
          rw [if_pos rfl, if_neg (by decide)] at hr
          have t0x : (hc_u (hc_u (hc_u T2 (t0 + 1 + 3 * nc + 1) (w : Int)) (t0 + 1 + 3 * nc + 2) (w2 : Int)) t0 ((nc : Int) + 1)) (t0 + 1 + 3 * nc) = (10 : Int) - 10 := (hu_n (by omega)).trans ((hu_n (by omega)).trans ((hu_n (by omega)).trans T2x))
          exact kok _ _ _ hr.symm h3 s3 _ f2 w2 G71 ((GFR.2.2 74 rfl).trans rfl) ((GFR.2.2 76 rfl).trans C76) G1 ((GME 14 rfl).trans C14) ((GME 18 rfl).trans C18) ((GME 22 rfl).trans ((CME 22 rfl).trans ((AME 22 rfl).trans rfl))) hu_s (by omega) ⟨by rw [hk]; exact t0x, fun z => absurd z (by omega), fun z => absurd z (by omega), fun z => absurd z (by omega)⟩ ⟨fun _ => ⟨(hu_n (by omega)).trans ((hu_n (by omega)).trans hu_s), (hu_n (by omega)).trans hu_s, V, rfl, CPC.eq (fun x h1 h2 => (hu_n (by omega)).trans ((hu_n (by omega)).trans (hu_n (by omega))))⟩, fun z => absurd z (by omega)⟩ (fun a ha => (hu_n (by omega)).trans ((hu_n (by omega)).trans ((hu_n (by omega)).trans ((CTS a (by omega)).trans (hu_n (by omega)))))) ((m1.tr (CME.mono (nin_sub rfl)) (fun _ z => z)).tr (GME.mono (nin_sub rfl)) (fun _ z => z)) ((((((Fr.tr (l2 := mfl) (Fr.tr (l2 := mfl) ((Fr.rf.wr rfl).wr rfl) (Fr.mono AFR (nin_sub rfl)) (fun _ z => z)) (Fr.rf.wr rfl) (fun _ z => z)).tr (Fr.mono CFR (nin_sub rfl)) (fun _ z => z)).wr rfl).wr rfl).wr rfl).tr (Fr.mono GFR (nin_sub rfl)) (fun _ z => z))
        · skip
          refine wp_go rfl rfl ?_
          refine wp_ret rfl rfl ?_
          have z52 : ¬ tK B n j = 52 := fun z => c174 ((mks_52 C1.2.2.2.1).2 z)
          dsimp only at hr
          rw [if_neg z52] at hr
          exact kf 1 _ hr.symm _ s2 _ f2 C71 rfl C76 C1.2.2.1 (by decide) (fun a ha => (hu_n (by omega)).trans ((hu_n (by omega)).trans ((hu_n (by omega)).trans ((CTS a (by omega)).trans (hu_n (by omega)))))) (m1.tr (CME.mono (nin_sub rfl)) (fun _ z => z)) (((((Fr.tr (l2 := mfl) (Fr.tr (l2 := mfl) ((Fr.rf.wr rfl).wr rfl) (Fr.mono AFR (nin_sub rfl)) (fun _ z => z)) (Fr.rf.wr rfl) (fun _ z => z)).tr (Fr.mono CFR (nin_sub rfl)) (fun _ z => z)).wr rfl).wr rfl).wr rfl)
      · skip
        subst e
        have C0 : fl ≠ 0 := sP_nz 4000 2 0 v (i + 1) (by decide) fl k hq
        refine wp_go rfl rfl ?_
        refine e_ist (L' := [xR 71, xI 0, xI (nc : Int), xI (((t0 : Int) + 1) + (3 * (nc : Int))), xI (w : Int), xI fl]) rfl rfl rfl ?_
        refine wp_go rfl rfl ?_
        refine e_ifeq rfl (fun c122 => absurd c122 C0) (fun c122 => ?_)
        refine wp_go rfl rfl ?_
        refine wp_ret rfl rfl ?_
        exact kf fl k hr.symm h2 s2 T2 f2 C71 C74 C76 C8 C0 (fun a ha => (CTS a (by omega)).trans (hu_n (by omega))) (m1.tr (CME.mono (nin_sub rfl)) (fun _ z => z)) ((Fr.tr (l2 := mfl) (Fr.tr (l2 := mfl) ((Fr.rf.wr rfl).wr rfl) (Fr.mono AFR (nin_sub rfl)) (fun _ z => z)) (Fr.rf.wr rfl) (fun _ z => z)).tr (Fr.mono CFR (nin_sub rfl)) (fun _ z => z))
    · skip
      refine wp_go rfl rfl ?_
      refine wp_ret rfl rfl ?_
      rw [sCl, if_neg (fun z => z (show 10 ≤ tK B n i ∧ tK B n i ≤ 14 by omega)), if_neg h4, if_pos (show 24 ≤ nc by omega)] at hr
      exact kf 6 i hr.symm h s T f H71 H74 H76 hTA.2.2.1 (by decide) (fun _ _ => rfl) ME.rf Fr.rf
set_option maxRecDepth 100000 in
theorem c_cl11 {d : Nat} {h : hc_H} {Q : List hc_V → hc_H → Prop} {B : Nat → Int} {n i w t0 nc : Nat} {v : ef} {ft fr : Option ef} {r : (Int × Nat) ⊕ (Nat × Option ef × Option ef)} {s T f : Nat → Int} (H : BY B) (hn : n ≤ 300) (hr : sCl (tK B n) (tN B n) v i nc ft fr = r) (H71 : h.2.2 71 = mo s) (H74 : h.2.2 74 = ar 2720 T) (H75 : h.2.2 75 = ar 300 B) (H76 : h.2.2 76 = ar 160 f) (hTA : TA B n s i) (e12 : s 12 = (t0 : Int)) (e14 : s 14 = (w : Int)) (e18 : s 18 = 0) (e22 : s 22 = onc ft fr) (hnc : T t0 = (nc : Int)) (hb : w ≤ i ∧ i ≤ 300 ∧ t0 ≤ 2040 ∧ nc ≤ 24) (hk : tK B n i = 11) (kok : ∀ (j : Nat) (ft2 fr2 : Option ef), r = .inr (j, ft2, fr2) → ∀ (h2 : hc_H) (s2 T2 f2 : Nat → Int) (w2 : Nat), h2.2.2 71 = mo s2 → h2.2.2 74 = ar 2720 T2 → h2.2.2 76 = ar 160 f2 → TA B n s2 j → s2 14 = (w2 : Int) → s2 18 = 0 → s2 22 = onc ft2 fr2 → T2 t0 = ((nc + 1 : Nat) : Int) → (j ≤ 300 ∧ w ≤ w2 ∧ w2 ≤ j ∧ nc < 24) → CLM (tK B n) (tN B n) T2 (t0 + 1 + 3 * nc) i → LWM (tK B n) T2 (t0 + 1 + 3 * nc) (t0 + 75) i w w2 ft2 fr2 → (∀ a, a < t0 ∨ t0 + 680 ≤ a ∨ (t0 < a ∧ a < t0 + 1 + 3 * nc) ∨ (t0 + 75 ≤ a ∧ a < t0 + 75 + 2 * w) → T2 a = T a) → ME mcl s s2 → Fr mfl h h2 → Q [xI 0] h2) (kf : ∀ (fl : Int) (k : Nat), r = .inl (fl, k) → ∀ (h2 : hc_H) (s2 T2 f2 : Nat → Int), h2.2.2 71 = mo s2 → h2.2.2 74 = ar 2720 T2 → h2.2.2 76 = ar 160 f2 → s2 8 = ((tP B n k : Nat) : Int) → fl ≠ 0 → (∀ a, a < t0 ∨ t0 + 680 ≤ a → T2 a = T a) → ME mcl s s2 → Fr mfl h h2 → Q [xI fl] h2) : hc_wp (d + 8) mX10_clause 0 [xR 71, none, none, none, none, none] [] h Q := by
  have hlt := tK_lt H hn (show tK B n i ≠ 0 by omega)
  match fr, hr, e22 with
  | some V9, hr, e22 =>
    have H71p : h.2.2 71 = .inr (10, [xR 72, xR 73, xR 74, xR 75, xI (s 4), xI (s 5), xI (s 6), xI (s 7), xI (s 8), xI (s 9), xI (s 10), xL (s 11), xI (t0 : Int), xI (s 13), xI (w : Int), xI (s 15), xR 76, xI (s 17), xI (s 18), xI (s 19), xI (s 20), xI (s 21), xI (onc ft (some V9)), xR 77, xR 78, xR 79, xR 80, xR 81, xR 82, xR 83, xI (s 30), xR 84, xR 85, xR 86, xR 87, xR 88, xR 89, xR 90]) := by rw [← e12, ← e14, ← e22]; exact H71
    refine wp_go rfl rfl ?_
    refine wp_cv rfl rfl rfl H71p rfl rfl rfl ?_
    refine c_sortOf H71 hTA.2.2.2.1 ?_
    rw [hk, show (if (10 : Int) ≤ 11 ∧ (11 : Int) ≤ 14 then (11 : Int) - 10 else -1) = 1 from rfl]
    refine e_istn (L' := [xR 71, xI 1, none, none, none, none]) rfl rfl rfl ?_
    refine wp_go rfl rfl ?_
    refine wp_go rfl rfl ?_
    refine wp_go rfl rfl ?_
    refine wp_go rfl rfl ?_
    refine wp_go rfl rfl ?_
    refine wp_go rfl rfl ?_
    refine e_get rfl H71p rfl rfl ?_
    refine wp_go rfl rfl ?_
    refine wp_go rfl rfl ?_
    refine wp_go rfl rfl ?_
    refine wp_go rfl rfl ?_
    rw [(onc_r (ft := ft) (V := V9)).2.1]
    refine wp_go rfl rfl ?_
    refine wp_go rfl rfl ?_
    refine wp_go rfl rfl ?_
    refine wp_ret rfl rfl ?_
    rw [sCl, if_neg (fun z => z (show 10 ≤ tK B n i ∧ tK B n i ≤ 14 by omega)), if_pos (Or.inr ⟨hk, rfl⟩)] at hr
    exact kf 4 i hr.symm h s T f H71 H74 H76 hTA.2.2.1 (by decide) (fun _ _ => rfl) ME.rf Fr.rf
  | none, hr, e22 =>
    have h4 : ¬ ((tK B n i = 10 ∧ ft.isSome = true) ∨ (tK B n i = 11 ∧ (none : Option ef).isSome = true)) := by simp [hk]
    have H71p : h.2.2 71 = .inr (10, [xR 72, xR 73, xR 74, xR 75, xI (s 4), xI (s 5), xI (s 6), xI (s 7), xI (s 8), xI (s 9), xI (s 10), xL (s 11), xI (t0 : Int), xI (s 13), xI (w : Int), xI (s 15), xR 76, xI (s 17), xI (s 18), xI (s 19), xI (s 20), xI (s 21), xI (onc ft none), xR 77, xR 78, xR 79, xR 80, xR 81, xR 82, xR 83, xI (s 30), xR 84, xR 85, xR 86, xR 87, xR 88, xR 89, xR 90]) := by rw [← e12, ← e14, ← e22]; exact H71
    refine wp_go rfl rfl ?_
    refine wp_cv rfl rfl rfl H71p rfl rfl rfl ?_
    refine c_sortOf H71 hTA.2.2.2.1 ?_
    rw [hk, show (if (10 : Int) ≤ 11 ∧ (11 : Int) ≤ 14 then (11 : Int) - 10 else -1) = 1 from rfl]
    refine e_istn (L' := [xR 71, xI 1, none, none, none, none]) rfl rfl rfl ?_
    refine wp_go rfl rfl ?_
    refine wp_go rfl rfl ?_
    refine wp_go rfl rfl ?_
    refine wp_go rfl rfl ?_
    refine wp_go rfl rfl ?_
    refine wp_go rfl rfl ?_
    refine e_get rfl H71p rfl rfl ?_
    refine wp_go rfl rfl ?_
    refine wp_go rfl rfl ?_
    refine wp_go rfl rfl ?_
    refine wp_go rfl rfl ?_
    rw [(onc_r (ft := ft) (V := cnv 0)).1]
    refine wp_go rfl rfl ?_
    refine wp_go rfl rfl ?_
    refine wp_go rfl rfl ?_
    refine e_get rfl H71p rfl rfl ?_
    refine wp_go rfl rfl ?_
    refine e_get rfl H71p rfl rfl ?_
    refine e_aldE (p := t0) rfl H74 rfl ⟨by omega, by omega⟩ ?_
    rw [hnc]
    refine e_istn (L' := [xR 71, xI 1, xI (nc : Int), none, none, none]) rfl rfl rfl ?_
    refine wp_go rfl rfl ?_
    refine wp_go rfl rfl ?_
    refine e_cne rfl (fun c43 => ?_) (fun c43 => ?_)
    · skip
      rw [sCl, if_neg (fun z => z (show 10 ≤ tK B n i ∧ tK B n i ≤ 14 by omega)), if_neg h4, if_neg (show ¬ 24 ≤ nc by omega)] at hr
      obtain ⟨q, hq, hqr⟩ := sP_tot (K := tK B n) (N := tN B n) (law := 11) (fun a ha => tK_big H hn ha) 4000 2 0 v (i + 1) (by decide) (by omega) (by have : rnk 2 = 4 := rfl; omega)
      rw [if_pos (show tK B n i ≤ 11 by omega), hk, hq] at hr
      obtain ⟨V0, hV0⟩ : ∃ V0 : ef, ∀ j V, q = .inr (j, V) → V0 = V := by
        match q with
        | .inl _ => exact ⟨cnv 0, fun j V e => by cases e⟩
        | .inr (j, V) => exact ⟨V, fun j2 V2 e => by cases e; rfl⟩
      refine wp_go rfl rfl ?_
      refine wp_go rfl rfl ?_
      refine wp_go rfl rfl ?_
      refine wp_go rfl rfl ?_
      refine wp_go rfl rfl ?_
      refine e_get rfl H71p rfl rfl ?_
      refine wp_go rfl rfl ?_
      refine wp_go rfl rfl ?_
      refine wp_go rfl rfl ?_
      refine wp_go rfl rfl ?_
      rw [(onc_r (ft := ft) (V := V0)).2.2]
      refine e_put (fs' := [xR 72, xR 73, xR 74, xR 75, xI (s 4), xI (s 5), xI (s 6), xI (s 7), xI (s 8), xI (s 9), xI (s 10), xL (s 11), xI (t0 : Int), xI (s 13), xI (w : Int), xI (s 15), xR 76, xI (s 17), xI (s 18), xI (s 19), xI (s 20), xI (s 21), xI (onc ft (some V0)), xR 77, xR 78, xR 79, xR 80, xR 81, xR 82, xR 83, xI (s 30), xR 84, xR 85, xR 86, xR 87, xR 88, xR 89, xR 90]) rfl H71p rfl rfl ?_
      refine wp_go rfl rfl ?_
      refine wp_go rfl rfl ?_
      refine e_put (fs' := [xR 72, xR 73, xR 74, xR 75, xI (s 4), xI (s 5), xI (s 6), xI (s 7), xI (s 8), xI (s 9), xI (s 10), xL (s 11), xI (t0 : Int), xI (s 13), xI (w : Int), xI (s 15), xR 76, xI (s 17), xI (s 18), xI (s 19), xI 1, xI (s 21), xI (onc ft (some V0)), xR 77, xR 78, xR 79, xR 80, xR 81, xR 82, xR 83, xI (s 30), xR 84, xR 85, xR 86, xR 87, xR 88, xR 89, xR 90]) rfl rfl rfl rfl ?_
      refine wp_go rfl rfl ?_
      refine wp_cv rfl rfl rfl rfl rfl rfl rfl ?_
      refine c_nextT (i := i + 1) (s := (hc_u (hc_u (hc_u (hc_u s 12 (t0 : Int)) 14 (w : Int)) 22 (onc ft (some V0))) 20 1)) H hn rfl hTA.1 hTA.2.1 H75 (fun h1 s1 A71 A1 AME AFR => ?_)
      have B12 : s1 12 = (t0 : Int) := (AME 12 rfl).trans rfl
      have B14 : s1 14 = (w : Int) := (AME 14 rfl).trans rfl
      have B71 : h1.2.2 71 = .inr (10, [xR 72, xR 73, xR 74, xR 75, xI (s1 4), xI (s1 5), xI (s1 6), xI (s1 7), xI (s1 8), xI (s1 9), xI (s1 10), xL (s1 11), xI (t0 : Int), xI (s1 13), xI (w : Int), xI (s1 15), xR 76, xI (s1 17), xI (s1 18), xI (s1 19), xI (s1 20), xI (s1 21), xI (s1 22), xR 77, xR 78, xR 79, xR 80, xR 81, xR 82, xR 83, xI (s1 30), xR 84, xR 85, xR 86, xR 87, xR 88, xR 89, xR 90]) := by rw [← B12, ← B14]; exact A71
      have B75 := (AFR.2.2 75 rfl).trans H75
      have B76 := (AFR.2.2 76 rfl).trans H76
      have B74 := (AFR.2.2 74 rfl).trans H74
      have m1 : ME mcl s s1 := ME.tr (l1 := mcl) (fun k hk2 => meC e12 e14 k hk2) (AME.mono (nin_sub rfl)) (fun _ z => z)
      refine wp_go rfl rfl ?_
      refine e_get rfl B71 rfl rfl ?_
      refine wp_go rfl rfl ?_
      refine e_iadd rfl (by omega) ?_
      refine wp_go rfl rfl ?_
      refine wp_go rfl rfl ?_
      refine e_imul rfl (by omega) ?_
      refine e_iadd rfl (by omega) ?_
      refine e_istn (L' := [xR 71, xI 1, xI (nc : Int), xI (((t0 : Int) + 1) + (3 * (nc : Int))), none, none]) rfl rfl rfl ?_
      refine wp_go rfl rfl ?_
      refine e_get rfl B71 rfl rfl ?_
      refine wp_go rfl rfl ?_
      refine wp_go rfl rfl ?_
      refine e_iastE (p := t0 + 1 + 3 * nc) rfl B74 ⟨by omega, by omega⟩ ?_
      refine wp_go rfl rfl ?_
      refine e_get rfl B71 rfl rfl ?_
      refine e_ist (L' := [xR 71, xI 1, xI (nc : Int), xI (((t0 : Int) + 1) + (3 * (nc : Int))), xI (w : Int), none]) rfl rfl rfl ?_
      refine wp_go rfl rfl ?_
      refine wp_go rfl rfl ?_
      refine wp_go rfl rfl ?_
      refine wp_go rfl rfl ?_
      refine wp_go rfl rfl ?_
      refine wp_cv rfl rfl rfl B71 rfl rfl rfl ?_
      refine c_parsed (d := d + 1) (t0 := t0) (w := w) H hn (lw := 11) (by decide) hq (s := s1) A71 rfl B75 B76 A1 B12 B14 ((AME 18 rfl).trans e18) ((AME 20 rfl).trans rfl) (by omega) (fun j V e h2 s2 T2 f2 w2 C71 C74 C76 C1 C14 C18 CPC CB CTS CME CFR => ?_) (fun fl k e h2 s2 T2 f2 C71 C74 C76 C8 CME CTS CFR => ?_)
      · skip
        subst e
        have D12 : s2 12 = (t0 : Int) := (CME 12 rfl).trans B12
        have D71 : h2.2.2 71 = .inr (10, [xR 72, xR 73, xR 74, xR 75, xI (s2 4), xI (s2 5), xI (s2 6), xI (s2 7), xI (s2 8), xI (s2 9), xI (s2 10), xL (s2 11), xI (t0 : Int), xI (s2 13), xI (w2 : Int), xI (s2 15), xR 76, xI (s2 17), xI (s2 18), xI (s2 19), xI (s2 20), xI (s2 21), xI (s2 22), xR 77, xR 78, xR 79, xR 80, xR 81, xR 82, xR 83, xI (s2 30), xR 84, xR 85, xR 86, xR 87, xR 88, xR 89, xR 90]) := by rw [← D12, ← C14]; exact C71
        have hw2 := CPC.1
        have T2x : T2 (t0 + 1 + 3 * nc) = 1 := (CTS _ (by omega)).trans hu_s
        have T2n : T2 t0 = (nc : Int) := (CTS _ (by omega)).trans ((hu_n (by omega)).trans hnc)
        refine wp_go rfl rfl ?_
        refine e_ist (L' := [xR 71, xI 1, xI (nc : Int), xI (((t0 : Int) + 1) + (3 * (nc : Int))), xI (w : Int), xI 0]) rfl rfl rfl ?_
        refine wp_go rfl rfl ?_
        refine wp_go rfl rfl ?_
        refine wp_go rfl rfl ?_
        refine wp_go rfl rfl ?_
        refine wp_go rfl rfl ?_
        refine wp_go rfl rfl ?_
        refine e_get rfl D71 rfl rfl ?_
        refine wp_go rfl rfl ?_
        refine wp_go rfl rfl ?_
        refine e_iadd rfl (by omega) ?_
        refine wp_go rfl rfl ?_
        refine e_iastE (p := t0 + 1 + 3 * nc + 1) rfl C74 ⟨by omega, by omega⟩ ?_
        refine wp_go rfl rfl ?_
        refine e_get rfl D71 rfl rfl ?_
        refine wp_go rfl rfl ?_
        refine wp_go rfl rfl ?_
        refine e_iadd rfl (by omega) ?_
        refine wp_go rfl rfl ?_
        refine e_get rfl D71 rfl rfl ?_
        refine e_iastE (p := t0 + 1 + 3 * nc + 2) rfl rfl ⟨by omega, by omega⟩ ?_
        refine wp_go rfl rfl ?_
        refine e_get rfl D71 rfl rfl ?_
        refine wp_go rfl rfl ?_
        refine e_get rfl D71 rfl rfl ?_
        refine wp_go rfl rfl ?_
        refine e_aldE (p := t0) rfl rfl rfl ⟨by omega, by omega⟩ ?_
        rw [show (hc_u (hc_u T2 (t0 + 1 + 3 * nc + 1) (w : Int)) (t0 + 1 + 3 * nc + 2) (w2 : Int)) t0 = (nc : Int) from ((hu_n (by omega)).trans ((hu_n (by omega)).trans T2n))]
        refine wp_go rfl rfl ?_
        refine e_iadd rfl (by omega) ?_
        refine e_iastE (p := t0) rfl rfl ⟨by omega, by omega⟩ ?_
        refine wp_go rfl rfl ?_
        refine e_get rfl D71 rfl rfl ?_
        refine wp_go rfl rfl ?_
        refine e_ceq rfl (fun c174 => ?_) (fun c174 => ?_)
        · skip
          refine wp_go rfl rfl ?_
          refine wp_cv rfl rfl rfl D71 rfl rfl rfl ?_
          refine c_nextT (i := j + 1) (s := s2) H hn C71 C1.1 C1.2.1 ((CFR.2.2 75 rfl).trans B75) (fun h3 s3 G71 G1 GME GFR => ?_)
          refine wp_go rfl rfl ?_
          refine wp_ret rfl rfl ?_
          have z52 : tK B n j = 52 := (mks_52 C1.2.2.2.1).1 c174
          have hl2 := tK_lt H hn (show tK B n j ≠ 0 by rw [z52]; decide)
          dsimp only at hr
          rw [if_pos z52] at hr
          rw [if_neg (by decide), if_pos rfl] at hr
          have t0x : (hc_u (hc_u (hc_u T2 (t0 + 1 + 3 * nc + 1) (w : Int)) (t0 + 1 + 3 * nc + 2) (w2 : Int)) t0 ((nc : Int) + 1)) (t0 + 1 + 3 * nc) = (11 : Int) - 10 := (hu_n (by omega)).trans ((hu_n (by omega)).trans ((hu_n (by omega)).trans T2x))
          exact kok _ _ _ hr.symm h3 s3 _ f2 w2 G71 ((GFR.2.2 74 rfl).trans rfl) ((GFR.2.2 76 rfl).trans C76) G1 ((GME 14 rfl).trans C14) ((GME 18 rfl).trans C18) ((GME 22 rfl).trans ((CME 22 rfl).trans ((AME 22 rfl).trans rfl))) hu_s (by omega) ⟨by rw [hk]; exact t0x, fun z => absurd z (by omega), fun z => absurd z (by omega), fun z => absurd z (by omega)⟩ ⟨fun z => absurd z (by omega), fun _ => ⟨(hu_n (by omega)).trans ((hu_n (by omega)).trans hu_s), (hu_n (by omega)).trans hu_s, V, rfl, CPC.eq (fun x h1 h2 => (hu_n (by omega)).trans ((hu_n (by omega)).trans (hu_n (by omega))))⟩⟩ (fun a ha => (hu_n (by omega)).trans ((hu_n (by omega)).trans ((hu_n (by omega)).trans ((CTS a (by omega)).trans (hu_n (by omega)))))) ((m1.tr (CME.mono (nin_sub rfl)) (fun _ z => z)).tr (GME.mono (nin_sub rfl)) (fun _ z => z)) ((((((Fr.tr (l2 := mfl) (Fr.tr (l2 := mfl) ((Fr.rf.wr rfl).wr rfl) (Fr.mono AFR (nin_sub rfl)) (fun _ z => z)) (Fr.rf.wr rfl) (fun _ z => z)).tr (Fr.mono CFR (nin_sub rfl)) (fun _ z => z)).wr rfl).wr rfl).wr rfl).tr (Fr.mono GFR (nin_sub rfl)) (fun _ z => z))
        · skip
          refine wp_go rfl rfl ?_
          refine wp_ret rfl rfl ?_
          have z52 : ¬ tK B n j = 52 := fun z => c174 ((mks_52 C1.2.2.2.1).2 z)
          dsimp only at hr
          rw [if_neg z52] at hr
          exact kf 1 _ hr.symm _ s2 _ f2 C71 rfl C76 C1.2.2.1 (by decide) (fun a ha => (hu_n (by omega)).trans ((hu_n (by omega)).trans ((hu_n (by omega)).trans ((CTS a (by omega)).trans (hu_n (by omega)))))) (m1.tr (CME.mono (nin_sub rfl)) (fun _ z => z)) (((((Fr.tr (l2 := mfl) (Fr.tr (l2 := mfl) ((Fr.rf.wr rfl).wr rfl) (Fr.mono AFR (nin_sub rfl)) (fun _ z => z)) (Fr.rf.wr rfl) (fun _ z => z)).tr (Fr.mono CFR (nin_sub rfl)) (fun _ z => z)).wr rfl).wr rfl).wr rfl)
      · skip
        subst e
        have C0 : fl ≠ 0 := sP_nz 4000 2 0 v (i + 1) (by decide) fl k hq
        refine wp_go rfl rfl ?_
        refine e_ist (L' := [xR 71, xI 1, xI (nc : Int), xI (((t0 : Int) + 1) + (3 * (nc : Int))), xI (w : Int), xI fl]) rfl rfl rfl ?_
        refine wp_go rfl rfl ?_
        refine e_ifeq rfl (fun c122 => absurd c122 C0) (fun c122 => ?_)
        refine wp_go rfl rfl ?_
        refine wp_ret rfl rfl ?_
        exact kf fl k hr.symm h2 s2 T2 f2 C71 C74 C76 C8 C0 (fun a ha => (CTS a (by omega)).trans (hu_n (by omega))) (m1.tr (CME.mono (nin_sub rfl)) (fun _ z => z)) ((Fr.tr (l2 := mfl) (Fr.tr (l2 := mfl) ((Fr.rf.wr rfl).wr rfl) (Fr.mono AFR (nin_sub rfl)) (fun _ z => z)) (Fr.rf.wr rfl) (fun _ z => z)).tr (Fr.mono CFR (nin_sub rfl)) (fun _ z => z))
    · skip
      refine wp_go rfl rfl ?_
      refine wp_ret rfl rfl ?_
      rw [sCl, if_neg (fun z => z (show 10 ≤ tK B n i ∧ tK B n i ≤ 14 by omega)), if_neg h4, if_pos (show 24 ≤ nc by omega)] at hr
      exact kf 6 i hr.symm h s T f H71 H74 H76 hTA.2.2.1 (by decide) (fun _ _ => rfl) ME.rf Fr.rf
set_option maxRecDepth 100000 in
theorem c_cl12 {d : Nat} {h : hc_H} {Q : List hc_V → hc_H → Prop} {B : Nat → Int} {n i w t0 nc : Nat} {v : ef} {ft fr : Option ef} {r : (Int × Nat) ⊕ (Nat × Option ef × Option ef)} {s T f : Nat → Int} (H : BY B) (hn : n ≤ 300) (hr : sCl (tK B n) (tN B n) v i nc ft fr = r) (H71 : h.2.2 71 = mo s) (H74 : h.2.2 74 = ar 2720 T) (H75 : h.2.2 75 = ar 300 B) (H76 : h.2.2 76 = ar 160 f) (hTA : TA B n s i) (e12 : s 12 = (t0 : Int)) (e14 : s 14 = (w : Int)) (e18 : s 18 = 0) (e22 : s 22 = onc ft fr) (hnc : T t0 = (nc : Int)) (hb : w ≤ i ∧ i ≤ 300 ∧ t0 ≤ 2040 ∧ nc ≤ 24) (hk : tK B n i = 12) (kok : ∀ (j : Nat) (ft2 fr2 : Option ef), r = .inr (j, ft2, fr2) → ∀ (h2 : hc_H) (s2 T2 f2 : Nat → Int) (w2 : Nat), h2.2.2 71 = mo s2 → h2.2.2 74 = ar 2720 T2 → h2.2.2 76 = ar 160 f2 → TA B n s2 j → s2 14 = (w2 : Int) → s2 18 = 0 → s2 22 = onc ft2 fr2 → T2 t0 = ((nc + 1 : Nat) : Int) → (j ≤ 300 ∧ w ≤ w2 ∧ w2 ≤ j ∧ nc < 24) → CLM (tK B n) (tN B n) T2 (t0 + 1 + 3 * nc) i → LWM (tK B n) T2 (t0 + 1 + 3 * nc) (t0 + 75) i w w2 ft2 fr2 → (∀ a, a < t0 ∨ t0 + 680 ≤ a ∨ (t0 < a ∧ a < t0 + 1 + 3 * nc) ∨ (t0 + 75 ≤ a ∧ a < t0 + 75 + 2 * w) → T2 a = T a) → ME mcl s s2 → Fr mfl h h2 → Q [xI 0] h2) (kf : ∀ (fl : Int) (k : Nat), r = .inl (fl, k) → ∀ (h2 : hc_H) (s2 T2 f2 : Nat → Int), h2.2.2 71 = mo s2 → h2.2.2 74 = ar 2720 T2 → h2.2.2 76 = ar 160 f2 → s2 8 = ((tP B n k : Nat) : Int) → fl ≠ 0 → (∀ a, a < t0 ∨ t0 + 680 ≤ a → T2 a = T a) → ME mcl s s2 → Fr mfl h h2 → Q [xI fl] h2) : hc_wp (d + 8) mX10_clause 0 [xR 71, none, none, none, none, none] [] h Q := by
  have hlt := tK_lt H hn (show tK B n i ≠ 0 by omega)
  have h4 : ¬ ((tK B n i = 10 ∧ ft.isSome = true) ∨ (tK B n i = 11 ∧ fr.isSome = true)) := by simp [hk]
  have H71p : h.2.2 71 = .inr (10, [xR 72, xR 73, xR 74, xR 75, xI (s 4), xI (s 5), xI (s 6), xI (s 7), xI (s 8), xI (s 9), xI (s 10), xL (s 11), xI (t0 : Int), xI (s 13), xI (w : Int), xI (s 15), xR 76, xI (s 17), xI (s 18), xI (s 19), xI (s 20), xI (s 21), xI (onc ft fr), xR 77, xR 78, xR 79, xR 80, xR 81, xR 82, xR 83, xI (s 30), xR 84, xR 85, xR 86, xR 87, xR 88, xR 89, xR 90]) := by rw [← e12, ← e14, ← e22]; exact H71
  refine wp_go rfl rfl ?_
  refine wp_cv rfl rfl rfl H71p rfl rfl rfl ?_
  refine c_sortOf H71 hTA.2.2.2.1 ?_
  rw [hk, show (if (10 : Int) ≤ 12 ∧ (12 : Int) ≤ 14 then (12 : Int) - 10 else -1) = 2 from rfl]
  refine e_istn (L' := [xR 71, xI 2, none, none, none, none]) rfl rfl rfl ?_
  refine wp_go rfl rfl ?_
  refine wp_go rfl rfl ?_
  refine wp_go rfl rfl ?_
  refine wp_go rfl rfl ?_
  refine wp_go rfl rfl ?_
  refine wp_go rfl rfl ?_
  refine e_get rfl H71p rfl rfl ?_
  refine wp_go rfl rfl ?_
  refine e_get rfl H71p rfl rfl ?_
  refine e_aldE (p := t0) rfl H74 rfl ⟨by omega, by omega⟩ ?_
  rw [hnc]
  refine e_istn (L' := [xR 71, xI 2, xI (nc : Int), none, none, none]) rfl rfl rfl ?_
  refine wp_go rfl rfl ?_
  refine wp_go rfl rfl ?_
  refine e_cne rfl (fun c43 => ?_) (fun c43 => ?_)
  · skip
    rw [sCl, if_neg (fun z => z (show 10 ≤ tK B n i ∧ tK B n i ≤ 14 by omega)), if_neg h4, if_neg (show ¬ 24 ≤ nc by omega)] at hr
    have hdl : dln (tK B n i) = 8 := by unfold dln; rw [hk]; rfl
    refine wp_go rfl rfl ?_
    refine wp_go rfl rfl ?_
    refine wp_go rfl rfl ?_
    refine wp_go rfl rfl ?_
    refine wp_go rfl rfl ?_
    refine e_put (fs' := [xR 72, xR 73, xR 74, xR 75, xI (s 4), xI (s 5), xI (s 6), xI (s 7), xI (s 8), xI (s 9), xI (s 10), xL (s 11), xI (t0 : Int), xI (s 13), xI (w : Int), xI (s 15), xR 76, xI (s 17), xI (s 18), xI (s 19), xI 2, xI (s 21), xI (onc ft fr), xR 77, xR 78, xR 79, xR 80, xR 81, xR 82, xR 83, xI (s 30), xR 84, xR 85, xR 86, xR 87, xR 88, xR 89, xR 90]) rfl H71p rfl rfl ?_
    refine wp_go rfl rfl ?_
    refine wp_cv rfl rfl rfl rfl rfl rfl rfl ?_
    refine c_nextT (i := i + 1) (s := (hc_u (hc_u (hc_u (hc_u s 12 (t0 : Int)) 14 (w : Int)) 22 (onc ft fr)) 20 2)) H hn rfl hTA.1 hTA.2.1 H75 (fun h1 s1 A71 A1 AME AFR => ?_)
    have B12 : s1 12 = (t0 : Int) := (AME 12 rfl).trans rfl
    have B14 : s1 14 = (w : Int) := (AME 14 rfl).trans rfl
    have B71 : h1.2.2 71 = .inr (10, [xR 72, xR 73, xR 74, xR 75, xI (s1 4), xI (s1 5), xI (s1 6), xI (s1 7), xI (s1 8), xI (s1 9), xI (s1 10), xL (s1 11), xI (t0 : Int), xI (s1 13), xI (w : Int), xI (s1 15), xR 76, xI (s1 17), xI (s1 18), xI (s1 19), xI (s1 20), xI (s1 21), xI (s1 22), xR 77, xR 78, xR 79, xR 80, xR 81, xR 82, xR 83, xI (s1 30), xR 84, xR 85, xR 86, xR 87, xR 88, xR 89, xR 90]) := by rw [← B12, ← B14]; exact A71
    have B75 := (AFR.2.2 75 rfl).trans H75
    have B76 := (AFR.2.2 76 rfl).trans H76
    have B74 := (AFR.2.2 74 rfl).trans H74
    have m1 : ME mcl s s1 := ME.tr (l1 := mcl) (fun k hk2 => meC e12 e14 k hk2) (AME.mono (nin_sub rfl)) (fun _ z => z)
    refine wp_go rfl rfl ?_
    refine e_get rfl B71 rfl rfl ?_
    refine wp_go rfl rfl ?_
    refine e_iadd rfl (by omega) ?_
    refine wp_go rfl rfl ?_
    refine wp_go rfl rfl ?_
    refine e_imul rfl (by omega) ?_
    refine e_iadd rfl (by omega) ?_
    refine e_istn (L' := [xR 71, xI 2, xI (nc : Int), xI (((t0 : Int) + 1) + (3 * (nc : Int))), none, none]) rfl rfl rfl ?_
    refine wp_go rfl rfl ?_
    refine e_get rfl B71 rfl rfl ?_
    refine wp_go rfl rfl ?_
    refine wp_go rfl rfl ?_
    refine e_iastE (p := t0 + 1 + 3 * nc) rfl B74 ⟨by omega, by omega⟩ ?_
    refine wp_go rfl rfl ?_
    refine e_get rfl B71 rfl rfl ?_
    refine e_ist (L' := [xR 71, xI 2, xI (nc : Int), xI (((t0 : Int) + 1) + (3 * (nc : Int))), xI (w : Int), none]) rfl rfl rfl ?_
    refine wp_go rfl rfl ?_
    refine wp_go rfl rfl ?_
    refine wp_go rfl rfl ?_
    refine wp_go rfl rfl ?_
    refine wp_go rfl rfl ?_
    refine wp_go rfl rfl ?_
    refine wp_cv rfl rfl rfl B71 rfl rfl rfl ?_
    rw [if_neg (show ¬ tK B n i ≤ 11 by omega)] at hr
    obtain ⟨q, hq⟩ : ∃ z, sDe (tK B n) (tN B n) i = z := ⟨_, rfl⟩
    rw [hq] at hr
    refine c_line2 (d := d + 1) (i := i) (x0 := t0 + 1 + 3 * nc) (T := hc_u T (t0 + 1 + 3 * nc) 2) H hn A71 rfl B75 A1 (by omega) hk hq (fun e h2 s2 T2 C71 C74 C1 V1 V2 CT CME CFR => ?_) (fun fl k e h2 s2 T2 C71 C74 C8 C0 CT CME CFR => ?_)
    · skip
      subst e
      have D12 : s2 12 = (t0 : Int) := (CME 12 rfl).trans B12
      have D71 : h2.2.2 71 = .inr (10, [xR 72, xR 73, xR 74, xR 75, xI (s2 4), xI (s2 5), xI (s2 6), xI (s2 7), xI (s2 8), xI (s2 9), xI (s2 10), xL (s2 11), xI (t0 : Int), xI (s2 13), xI (s2 14), xI (s2 15), xR 76, xI (s2 17), xI (s2 18), xI (s2 19), xI (s2 20), xI (s2 21), xI (s2 22), xR 77, xR 78, xR 79, xR 80, xR 81, xR 82, xR 83, xI (s2 30), xR 84, xR 85, xR 86, xR 87, xR 88, xR 89, xR 90]) := by rw [← D12]; exact C71
      have C14 : s2 14 = (w : Int) := (CME 14 rfl).trans B14
      have C18 : s2 18 = 0 := (CME 18 rfl).trans ((AME 18 rfl).trans e18)
      have T2x : T2 (t0 + 1 + 3 * nc) = 2 := (CT _ (by omega) (by omega)).trans hu_s
      have T2n : T2 t0 = (nc : Int) := (CT _ (by omega) (by omega)).trans ((hu_n (by omega)).trans hnc)
      refine e_ist (L' := [xR 71, xI 2, xI (nc : Int), xI (((t0 : Int) + 1) + (3 * (nc : Int))), xI (w : Int), xI 0]) rfl rfl rfl ?_
      refine wp_go rfl rfl ?_
      refine wp_go rfl rfl ?_
      refine wp_go rfl rfl ?_
      refine wp_go rfl rfl ?_
      refine wp_go rfl rfl ?_
      refine wp_go rfl rfl ?_
      refine e_get rfl D71 rfl rfl ?_
      refine wp_go rfl rfl ?_
      refine e_get rfl D71 rfl rfl ?_
      refine wp_go rfl rfl ?_
      refine e_aldE (p := t0) rfl C74 rfl ⟨by omega, by omega⟩ ?_
      rw [show T2 t0 = (nc : Int) from T2n]
      refine wp_go rfl rfl ?_
      refine e_iadd rfl (by omega) ?_
      refine e_iastE (p := t0) rfl C74 ⟨by omega, by omega⟩ ?_
      refine wp_go rfl rfl ?_
      refine e_get rfl D71 rfl rfl ?_
      refine wp_go rfl rfl ?_
      refine e_ceq rfl (fun c174 => ?_) (fun c174 => ?_)
      · skip
        refine wp_go rfl rfl ?_
        refine wp_cv rfl rfl rfl D71 rfl rfl rfl ?_
        refine c_nextT (i := i + 8 + 1) (s := s2) H hn C71 C1.1 C1.2.1 ((CFR.2.2 75 rfl).trans B75) (fun h3 s3 G71 G1 GME GFR => ?_)
        refine wp_go rfl rfl ?_
        refine wp_ret rfl rfl ?_
        have z52 : tK B n (i + 8) = 52 := (mks_52 C1.2.2.2.1).1 c174
        have hl2 := tK_lt H hn (show tK B n (i + 8) ≠ 0 by rw [z52]; decide)
        dsimp only at hr
        rw [hdl] at hr
        rw [if_pos z52] at hr
        have t0x : (hc_u T2 t0 ((nc : Int) + 1)) (t0 + 1 + 3 * nc) = (12 : Int) - 10 := (hu_n (by omega)).trans T2x
        exact kok _ _ _ hr.symm h3 s3 _ f w G71 ((GFR.2.2 74 rfl).trans rfl) ((GFR.2.2 76 rfl).trans ((CFR.2.2 76 rfl).trans B76)) G1 ((GME 14 rfl).trans C14) ((GME 18 rfl).trans C18) ((GME 22 rfl).trans ((CME 22 rfl).trans ((AME 22 rfl).trans rfl))) hu_s (by omega) ⟨by rw [hk]; exact t0x, fun _ => ⟨(hu_n (by omega)).trans V1, (hu_n (by omega)).trans V2⟩, fun z => absurd z (by omega), fun z => absurd z (by omega)⟩ ⟨fun z => absurd z (by omega), fun z => absurd z (by omega)⟩ (fun a ha => (hu_n (by omega)).trans ((CT a (by omega) (by omega)).trans (hu_n (by omega)))) ((m1.tr (CME.mono (nin_sub rfl)) (fun _ z => z)).tr (GME.mono (nin_sub rfl)) (fun _ z => z)) ((((Fr.tr (l2 := mfl) (Fr.tr (l2 := mfl) (Fr.rf.wr rfl) (Fr.mono AFR (nin_sub rfl)) (fun _ z => z)) (Fr.rf.wr rfl) (fun _ z => z)).tr (Fr.mono CFR (nin_sub rfl)) (fun _ z => z)).wr rfl).tr (Fr.mono GFR (nin_sub rfl)) (fun _ z => z))
      · skip
        refine wp_go rfl rfl ?_
        refine wp_ret rfl rfl ?_
        have z52 : ¬ tK B n (i + 8) = 52 := fun z => c174 ((mks_52 C1.2.2.2.1).2 z)
        dsimp only at hr
        rw [hdl] at hr
        rw [if_neg z52] at hr
        exact kf 1 _ hr.symm _ s2 _ f C71 rfl ((CFR.2.2 76 rfl).trans B76) C1.2.2.1 (by decide) (fun a ha => (hu_n (by omega)).trans ((CT a (by omega) (by omega)).trans (hu_n (by omega)))) (m1.tr (CME.mono (nin_sub rfl)) (fun _ z => z)) (((Fr.tr (l2 := mfl) (Fr.tr (l2 := mfl) (Fr.rf.wr rfl) (Fr.mono AFR (nin_sub rfl)) (fun _ z => z)) (Fr.rf.wr rfl) (fun _ z => z)).tr (Fr.mono CFR (nin_sub rfl)) (fun _ z => z)).wr rfl)
    · skip
      subst e
      refine e_ist (L' := [xR 71, xI 2, xI (nc : Int), xI (((t0 : Int) + 1) + (3 * (nc : Int))), xI (w : Int), xI fl]) rfl rfl rfl ?_
      refine wp_go rfl rfl ?_
      refine e_ifeq rfl (fun c122 => absurd c122 C0) (fun c122 => ?_)
      refine wp_go rfl rfl ?_
      refine wp_ret rfl rfl ?_
      exact kf fl k hr.symm h2 s2 T2 f C71 C74 ((CFR.2.2 76 rfl).trans B76) C8 C0 (fun a ha => (CT a (by omega) (by omega)).trans (hu_n (by omega))) (m1.tr (CME.mono (nin_sub rfl)) (fun _ z => z)) ((Fr.tr (l2 := mfl) (Fr.tr (l2 := mfl) (Fr.rf.wr rfl) (Fr.mono AFR (nin_sub rfl)) (fun _ z => z)) (Fr.rf.wr rfl) (fun _ z => z)).tr (Fr.mono CFR (nin_sub rfl)) (fun _ z => z))
  · skip
    refine wp_go rfl rfl ?_
    refine wp_ret rfl rfl ?_
    rw [sCl, if_neg (fun z => z (show 10 ≤ tK B n i ∧ tK B n i ≤ 14 by omega)), if_neg h4, if_pos (show 24 ≤ nc by omega)] at hr
    exact kf 6 i hr.symm h s T f H71 H74 H76 hTA.2.2.1 (by decide) (fun _ _ => rfl) ME.rf Fr.rf
set_option maxRecDepth 100000 in
theorem c_cl13 {d : Nat} {h : hc_H} {Q : List hc_V → hc_H → Prop} {B : Nat → Int} {n i w t0 nc : Nat} {v : ef} {ft fr : Option ef} {r : (Int × Nat) ⊕ (Nat × Option ef × Option ef)} {s T f : Nat → Int} (H : BY B) (hn : n ≤ 300) (hr : sCl (tK B n) (tN B n) v i nc ft fr = r) (H71 : h.2.2 71 = mo s) (H74 : h.2.2 74 = ar 2720 T) (H75 : h.2.2 75 = ar 300 B) (H76 : h.2.2 76 = ar 160 f) (hTA : TA B n s i) (e12 : s 12 = (t0 : Int)) (e14 : s 14 = (w : Int)) (e18 : s 18 = 0) (e22 : s 22 = onc ft fr) (hnc : T t0 = (nc : Int)) (hb : w ≤ i ∧ i ≤ 300 ∧ t0 ≤ 2040 ∧ nc ≤ 24) (hk : tK B n i = 13) (kok : ∀ (j : Nat) (ft2 fr2 : Option ef), r = .inr (j, ft2, fr2) → ∀ (h2 : hc_H) (s2 T2 f2 : Nat → Int) (w2 : Nat), h2.2.2 71 = mo s2 → h2.2.2 74 = ar 2720 T2 → h2.2.2 76 = ar 160 f2 → TA B n s2 j → s2 14 = (w2 : Int) → s2 18 = 0 → s2 22 = onc ft2 fr2 → T2 t0 = ((nc + 1 : Nat) : Int) → (j ≤ 300 ∧ w ≤ w2 ∧ w2 ≤ j ∧ nc < 24) → CLM (tK B n) (tN B n) T2 (t0 + 1 + 3 * nc) i → LWM (tK B n) T2 (t0 + 1 + 3 * nc) (t0 + 75) i w w2 ft2 fr2 → (∀ a, a < t0 ∨ t0 + 680 ≤ a ∨ (t0 < a ∧ a < t0 + 1 + 3 * nc) ∨ (t0 + 75 ≤ a ∧ a < t0 + 75 + 2 * w) → T2 a = T a) → ME mcl s s2 → Fr mfl h h2 → Q [xI 0] h2) (kf : ∀ (fl : Int) (k : Nat), r = .inl (fl, k) → ∀ (h2 : hc_H) (s2 T2 f2 : Nat → Int), h2.2.2 71 = mo s2 → h2.2.2 74 = ar 2720 T2 → h2.2.2 76 = ar 160 f2 → s2 8 = ((tP B n k : Nat) : Int) → fl ≠ 0 → (∀ a, a < t0 ∨ t0 + 680 ≤ a → T2 a = T a) → ME mcl s s2 → Fr mfl h h2 → Q [xI fl] h2) : hc_wp (d + 8) mX10_clause 0 [xR 71, none, none, none, none, none] [] h Q := by
  have hlt := tK_lt H hn (show tK B n i ≠ 0 by omega)
  have h4 : ¬ ((tK B n i = 10 ∧ ft.isSome = true) ∨ (tK B n i = 11 ∧ fr.isSome = true)) := by simp [hk]
  have H71p : h.2.2 71 = .inr (10, [xR 72, xR 73, xR 74, xR 75, xI (s 4), xI (s 5), xI (s 6), xI (s 7), xI (s 8), xI (s 9), xI (s 10), xL (s 11), xI (t0 : Int), xI (s 13), xI (w : Int), xI (s 15), xR 76, xI (s 17), xI (s 18), xI (s 19), xI (s 20), xI (s 21), xI (onc ft fr), xR 77, xR 78, xR 79, xR 80, xR 81, xR 82, xR 83, xI (s 30), xR 84, xR 85, xR 86, xR 87, xR 88, xR 89, xR 90]) := by rw [← e12, ← e14, ← e22]; exact H71
  refine wp_go rfl rfl ?_
  refine wp_cv rfl rfl rfl H71p rfl rfl rfl ?_
  refine c_sortOf H71 hTA.2.2.2.1 ?_
  rw [hk, show (if (10 : Int) ≤ 13 ∧ (13 : Int) ≤ 14 then (13 : Int) - 10 else -1) = 3 from rfl]
  refine e_istn (L' := [xR 71, xI 3, none, none, none, none]) rfl rfl rfl ?_
  refine wp_go rfl rfl ?_
  refine wp_go rfl rfl ?_
  refine wp_go rfl rfl ?_
  refine wp_go rfl rfl ?_
  refine wp_go rfl rfl ?_
  refine wp_go rfl rfl ?_
  refine e_get rfl H71p rfl rfl ?_
  refine wp_go rfl rfl ?_
  refine e_get rfl H71p rfl rfl ?_
  refine e_aldE (p := t0) rfl H74 rfl ⟨by omega, by omega⟩ ?_
  rw [hnc]
  refine e_istn (L' := [xR 71, xI 3, xI (nc : Int), none, none, none]) rfl rfl rfl ?_
  refine wp_go rfl rfl ?_
  refine wp_go rfl rfl ?_
  refine e_cne rfl (fun c43 => ?_) (fun c43 => ?_)
  · skip
    rw [sCl, if_neg (fun z => z (show 10 ≤ tK B n i ∧ tK B n i ≤ 14 by omega)), if_neg h4, if_neg (show ¬ 24 ≤ nc by omega)] at hr
    have hdl : dln (tK B n i) = 4 := by unfold dln; rw [hk]; rfl
    refine wp_go rfl rfl ?_
    refine wp_go rfl rfl ?_
    refine wp_go rfl rfl ?_
    refine wp_go rfl rfl ?_
    refine wp_go rfl rfl ?_
    refine e_put (fs' := [xR 72, xR 73, xR 74, xR 75, xI (s 4), xI (s 5), xI (s 6), xI (s 7), xI (s 8), xI (s 9), xI (s 10), xL (s 11), xI (t0 : Int), xI (s 13), xI (w : Int), xI (s 15), xR 76, xI (s 17), xI (s 18), xI (s 19), xI 3, xI (s 21), xI (onc ft fr), xR 77, xR 78, xR 79, xR 80, xR 81, xR 82, xR 83, xI (s 30), xR 84, xR 85, xR 86, xR 87, xR 88, xR 89, xR 90]) rfl H71p rfl rfl ?_
    refine wp_go rfl rfl ?_
    refine wp_cv rfl rfl rfl rfl rfl rfl rfl ?_
    refine c_nextT (i := i + 1) (s := (hc_u (hc_u (hc_u (hc_u s 12 (t0 : Int)) 14 (w : Int)) 22 (onc ft fr)) 20 3)) H hn rfl hTA.1 hTA.2.1 H75 (fun h1 s1 A71 A1 AME AFR => ?_)
    have B12 : s1 12 = (t0 : Int) := (AME 12 rfl).trans rfl
    have B14 : s1 14 = (w : Int) := (AME 14 rfl).trans rfl
    have B71 : h1.2.2 71 = .inr (10, [xR 72, xR 73, xR 74, xR 75, xI (s1 4), xI (s1 5), xI (s1 6), xI (s1 7), xI (s1 8), xI (s1 9), xI (s1 10), xL (s1 11), xI (t0 : Int), xI (s1 13), xI (w : Int), xI (s1 15), xR 76, xI (s1 17), xI (s1 18), xI (s1 19), xI (s1 20), xI (s1 21), xI (s1 22), xR 77, xR 78, xR 79, xR 80, xR 81, xR 82, xR 83, xI (s1 30), xR 84, xR 85, xR 86, xR 87, xR 88, xR 89, xR 90]) := by rw [← B12, ← B14]; exact A71
    have B75 := (AFR.2.2 75 rfl).trans H75
    have B76 := (AFR.2.2 76 rfl).trans H76
    have B74 := (AFR.2.2 74 rfl).trans H74
    have m1 : ME mcl s s1 := ME.tr (l1 := mcl) (fun k hk2 => meC e12 e14 k hk2) (AME.mono (nin_sub rfl)) (fun _ z => z)
    refine wp_go rfl rfl ?_
    refine e_get rfl B71 rfl rfl ?_
    refine wp_go rfl rfl ?_
    refine e_iadd rfl (by omega) ?_
    refine wp_go rfl rfl ?_
    refine wp_go rfl rfl ?_
    refine e_imul rfl (by omega) ?_
    refine e_iadd rfl (by omega) ?_
    refine e_istn (L' := [xR 71, xI 3, xI (nc : Int), xI (((t0 : Int) + 1) + (3 * (nc : Int))), none, none]) rfl rfl rfl ?_
    refine wp_go rfl rfl ?_
    refine e_get rfl B71 rfl rfl ?_
    refine wp_go rfl rfl ?_
    refine wp_go rfl rfl ?_
    refine e_iastE (p := t0 + 1 + 3 * nc) rfl B74 ⟨by omega, by omega⟩ ?_
    refine wp_go rfl rfl ?_
    refine e_get rfl B71 rfl rfl ?_
    refine e_ist (L' := [xR 71, xI 3, xI (nc : Int), xI (((t0 : Int) + 1) + (3 * (nc : Int))), xI (w : Int), none]) rfl rfl rfl ?_
    refine wp_go rfl rfl ?_
    refine wp_go rfl rfl ?_
    refine wp_go rfl rfl ?_
    refine wp_go rfl rfl ?_
    refine wp_go rfl rfl ?_
    refine wp_go rfl rfl ?_
    refine wp_cv rfl rfl rfl B71 rfl rfl rfl ?_
    rw [if_neg (show ¬ tK B n i ≤ 11 by omega)] at hr
    obtain ⟨q, hq⟩ : ∃ z, sDe (tK B n) (tN B n) i = z := ⟨_, rfl⟩
    rw [hq] at hr
    refine c_line3 (d := d + 1) (i := i) (x0 := t0 + 1 + 3 * nc) (T := hc_u T (t0 + 1 + 3 * nc) 3) H hn A71 rfl B75 A1 (by omega) hk hq (fun e h2 s2 T2 C71 C74 C1 V1 V2 CT CME CFR => ?_) (fun fl k e h2 s2 T2 C71 C74 C8 C0 CT CME CFR => ?_)
    · skip
      subst e
      have D12 : s2 12 = (t0 : Int) := (CME 12 rfl).trans B12
      have D71 : h2.2.2 71 = .inr (10, [xR 72, xR 73, xR 74, xR 75, xI (s2 4), xI (s2 5), xI (s2 6), xI (s2 7), xI (s2 8), xI (s2 9), xI (s2 10), xL (s2 11), xI (t0 : Int), xI (s2 13), xI (s2 14), xI (s2 15), xR 76, xI (s2 17), xI (s2 18), xI (s2 19), xI (s2 20), xI (s2 21), xI (s2 22), xR 77, xR 78, xR 79, xR 80, xR 81, xR 82, xR 83, xI (s2 30), xR 84, xR 85, xR 86, xR 87, xR 88, xR 89, xR 90]) := by rw [← D12]; exact C71
      have C14 : s2 14 = (w : Int) := (CME 14 rfl).trans B14
      have C18 : s2 18 = 0 := (CME 18 rfl).trans ((AME 18 rfl).trans e18)
      have T2x : T2 (t0 + 1 + 3 * nc) = 3 := (CT _ (by omega) (by omega)).trans hu_s
      have T2n : T2 t0 = (nc : Int) := (CT _ (by omega) (by omega)).trans ((hu_n (by omega)).trans hnc)
      refine e_ist (L' := [xR 71, xI 3, xI (nc : Int), xI (((t0 : Int) + 1) + (3 * (nc : Int))), xI (w : Int), xI 0]) rfl rfl rfl ?_
      refine wp_go rfl rfl ?_
      refine wp_go rfl rfl ?_
      refine wp_go rfl rfl ?_
      refine wp_go rfl rfl ?_
      refine wp_go rfl rfl ?_
      refine wp_go rfl rfl ?_
      refine e_get rfl D71 rfl rfl ?_
      refine wp_go rfl rfl ?_
      refine e_get rfl D71 rfl rfl ?_
      refine wp_go rfl rfl ?_
      refine e_aldE (p := t0) rfl C74 rfl ⟨by omega, by omega⟩ ?_
      rw [show T2 t0 = (nc : Int) from T2n]
      refine wp_go rfl rfl ?_
      refine e_iadd rfl (by omega) ?_
      refine e_iastE (p := t0) rfl C74 ⟨by omega, by omega⟩ ?_
      refine wp_go rfl rfl ?_
      refine e_get rfl D71 rfl rfl ?_
      refine wp_go rfl rfl ?_
      refine e_ceq rfl (fun c174 => ?_) (fun c174 => ?_)
      · skip
        refine wp_go rfl rfl ?_
        refine wp_cv rfl rfl rfl D71 rfl rfl rfl ?_
        refine c_nextT (i := i + 4 + 1) (s := s2) H hn C71 C1.1 C1.2.1 ((CFR.2.2 75 rfl).trans B75) (fun h3 s3 G71 G1 GME GFR => ?_)
        refine wp_go rfl rfl ?_
        refine wp_ret rfl rfl ?_
        have z52 : tK B n (i + 4) = 52 := (mks_52 C1.2.2.2.1).1 c174
        have hl2 := tK_lt H hn (show tK B n (i + 4) ≠ 0 by rw [z52]; decide)
        dsimp only at hr
        rw [hdl] at hr
        rw [if_pos z52] at hr
        have t0x : (hc_u T2 t0 ((nc : Int) + 1)) (t0 + 1 + 3 * nc) = (13 : Int) - 10 := (hu_n (by omega)).trans T2x
        exact kok _ _ _ hr.symm h3 s3 _ f w G71 ((GFR.2.2 74 rfl).trans rfl) ((GFR.2.2 76 rfl).trans ((CFR.2.2 76 rfl).trans B76)) G1 ((GME 14 rfl).trans C14) ((GME 18 rfl).trans C18) ((GME 22 rfl).trans ((CME 22 rfl).trans ((AME 22 rfl).trans rfl))) hu_s (by omega) ⟨by rw [hk]; exact t0x, fun z => absurd z (by omega), fun _ => ⟨(hu_n (by omega)).trans V1, (hu_n (by omega)).trans V2⟩, fun z => absurd z (by omega)⟩ ⟨fun z => absurd z (by omega), fun z => absurd z (by omega)⟩ (fun a ha => (hu_n (by omega)).trans ((CT a (by omega) (by omega)).trans (hu_n (by omega)))) ((m1.tr (CME.mono (nin_sub rfl)) (fun _ z => z)).tr (GME.mono (nin_sub rfl)) (fun _ z => z)) ((((Fr.tr (l2 := mfl) (Fr.tr (l2 := mfl) (Fr.rf.wr rfl) (Fr.mono AFR (nin_sub rfl)) (fun _ z => z)) (Fr.rf.wr rfl) (fun _ z => z)).tr (Fr.mono CFR (nin_sub rfl)) (fun _ z => z)).wr rfl).tr (Fr.mono GFR (nin_sub rfl)) (fun _ z => z))
      · skip
        refine wp_go rfl rfl ?_
        refine wp_ret rfl rfl ?_
        have z52 : ¬ tK B n (i + 4) = 52 := fun z => c174 ((mks_52 C1.2.2.2.1).2 z)
        dsimp only at hr
        rw [hdl] at hr
        rw [if_neg z52] at hr
        exact kf 1 _ hr.symm _ s2 _ f C71 rfl ((CFR.2.2 76 rfl).trans B76) C1.2.2.1 (by decide) (fun a ha => (hu_n (by omega)).trans ((CT a (by omega) (by omega)).trans (hu_n (by omega)))) (m1.tr (CME.mono (nin_sub rfl)) (fun _ z => z)) (((Fr.tr (l2 := mfl) (Fr.tr (l2 := mfl) (Fr.rf.wr rfl) (Fr.mono AFR (nin_sub rfl)) (fun _ z => z)) (Fr.rf.wr rfl) (fun _ z => z)).tr (Fr.mono CFR (nin_sub rfl)) (fun _ z => z)).wr rfl)
    · skip
      subst e
      refine e_ist (L' := [xR 71, xI 3, xI (nc : Int), xI (((t0 : Int) + 1) + (3 * (nc : Int))), xI (w : Int), xI fl]) rfl rfl rfl ?_
      refine wp_go rfl rfl ?_
      refine e_ifeq rfl (fun c122 => absurd c122 C0) (fun c122 => ?_)
      refine wp_go rfl rfl ?_
      refine wp_ret rfl rfl ?_
      exact kf fl k hr.symm h2 s2 T2 f C71 C74 ((CFR.2.2 76 rfl).trans B76) C8 C0 (fun a ha => (CT a (by omega) (by omega)).trans (hu_n (by omega))) (m1.tr (CME.mono (nin_sub rfl)) (fun _ z => z)) ((Fr.tr (l2 := mfl) (Fr.tr (l2 := mfl) (Fr.rf.wr rfl) (Fr.mono AFR (nin_sub rfl)) (fun _ z => z)) (Fr.rf.wr rfl) (fun _ z => z)).tr (Fr.mono CFR (nin_sub rfl)) (fun _ z => z))
  · skip
    refine wp_go rfl rfl ?_
    refine wp_ret rfl rfl ?_
    rw [sCl, if_neg (fun z => z (show 10 ≤ tK B n i ∧ tK B n i ≤ 14 by omega)), if_neg h4, if_pos (show 24 ≤ nc by omega)] at hr
    exact kf 6 i hr.symm h s T f H71 H74 H76 hTA.2.2.1 (by decide) (fun _ _ => rfl) ME.rf Fr.rf
set_option maxRecDepth 100000 in
theorem c_cl14 {d : Nat} {h : hc_H} {Q : List hc_V → hc_H → Prop} {B : Nat → Int} {n i w t0 nc : Nat} {v : ef} {ft fr : Option ef} {r : (Int × Nat) ⊕ (Nat × Option ef × Option ef)} {s T f : Nat → Int} (H : BY B) (hn : n ≤ 300) (hr : sCl (tK B n) (tN B n) v i nc ft fr = r) (H71 : h.2.2 71 = mo s) (H74 : h.2.2 74 = ar 2720 T) (H75 : h.2.2 75 = ar 300 B) (H76 : h.2.2 76 = ar 160 f) (hTA : TA B n s i) (e12 : s 12 = (t0 : Int)) (e14 : s 14 = (w : Int)) (e18 : s 18 = 0) (e22 : s 22 = onc ft fr) (hnc : T t0 = (nc : Int)) (hb : w ≤ i ∧ i ≤ 300 ∧ t0 ≤ 2040 ∧ nc ≤ 24) (hk : tK B n i = 14) (kok : ∀ (j : Nat) (ft2 fr2 : Option ef), r = .inr (j, ft2, fr2) → ∀ (h2 : hc_H) (s2 T2 f2 : Nat → Int) (w2 : Nat), h2.2.2 71 = mo s2 → h2.2.2 74 = ar 2720 T2 → h2.2.2 76 = ar 160 f2 → TA B n s2 j → s2 14 = (w2 : Int) → s2 18 = 0 → s2 22 = onc ft2 fr2 → T2 t0 = ((nc + 1 : Nat) : Int) → (j ≤ 300 ∧ w ≤ w2 ∧ w2 ≤ j ∧ nc < 24) → CLM (tK B n) (tN B n) T2 (t0 + 1 + 3 * nc) i → LWM (tK B n) T2 (t0 + 1 + 3 * nc) (t0 + 75) i w w2 ft2 fr2 → (∀ a, a < t0 ∨ t0 + 680 ≤ a ∨ (t0 < a ∧ a < t0 + 1 + 3 * nc) ∨ (t0 + 75 ≤ a ∧ a < t0 + 75 + 2 * w) → T2 a = T a) → ME mcl s s2 → Fr mfl h h2 → Q [xI 0] h2) (kf : ∀ (fl : Int) (k : Nat), r = .inl (fl, k) → ∀ (h2 : hc_H) (s2 T2 f2 : Nat → Int), h2.2.2 71 = mo s2 → h2.2.2 74 = ar 2720 T2 → h2.2.2 76 = ar 160 f2 → s2 8 = ((tP B n k : Nat) : Int) → fl ≠ 0 → (∀ a, a < t0 ∨ t0 + 680 ≤ a → T2 a = T a) → ME mcl s s2 → Fr mfl h h2 → Q [xI fl] h2) : hc_wp (d + 8) mX10_clause 0 [xR 71, none, none, none, none, none] [] h Q := by
  have hlt := tK_lt H hn (show tK B n i ≠ 0 by omega)
  have h4 : ¬ ((tK B n i = 10 ∧ ft.isSome = true) ∨ (tK B n i = 11 ∧ fr.isSome = true)) := by simp [hk]
  have H71p : h.2.2 71 = .inr (10, [xR 72, xR 73, xR 74, xR 75, xI (s 4), xI (s 5), xI (s 6), xI (s 7), xI (s 8), xI (s 9), xI (s 10), xL (s 11), xI (t0 : Int), xI (s 13), xI (w : Int), xI (s 15), xR 76, xI (s 17), xI (s 18), xI (s 19), xI (s 20), xI (s 21), xI (onc ft fr), xR 77, xR 78, xR 79, xR 80, xR 81, xR 82, xR 83, xI (s 30), xR 84, xR 85, xR 86, xR 87, xR 88, xR 89, xR 90]) := by rw [← e12, ← e14, ← e22]; exact H71
  refine wp_go rfl rfl ?_
  refine wp_cv rfl rfl rfl H71p rfl rfl rfl ?_
  refine c_sortOf H71 hTA.2.2.2.1 ?_
  rw [hk, show (if (10 : Int) ≤ 14 ∧ (14 : Int) ≤ 14 then (14 : Int) - 10 else -1) = 4 from rfl]
  refine e_istn (L' := [xR 71, xI 4, none, none, none, none]) rfl rfl rfl ?_
  refine wp_go rfl rfl ?_
  refine wp_go rfl rfl ?_
  refine wp_go rfl rfl ?_
  refine wp_go rfl rfl ?_
  refine wp_go rfl rfl ?_
  refine wp_go rfl rfl ?_
  refine e_get rfl H71p rfl rfl ?_
  refine wp_go rfl rfl ?_
  refine e_get rfl H71p rfl rfl ?_
  refine e_aldE (p := t0) rfl H74 rfl ⟨by omega, by omega⟩ ?_
  rw [hnc]
  refine e_istn (L' := [xR 71, xI 4, xI (nc : Int), none, none, none]) rfl rfl rfl ?_
  refine wp_go rfl rfl ?_
  refine wp_go rfl rfl ?_
  refine e_cne rfl (fun c43 => ?_) (fun c43 => ?_)
  · skip
    rw [sCl, if_neg (fun z => z (show 10 ≤ tK B n i ∧ tK B n i ≤ 14 by omega)), if_neg h4, if_neg (show ¬ 24 ≤ nc by omega)] at hr
    have hdl : dln (tK B n i) = 2 := by unfold dln; rw [hk]; rfl
    refine wp_go rfl rfl ?_
    refine wp_go rfl rfl ?_
    refine wp_go rfl rfl ?_
    refine wp_go rfl rfl ?_
    refine wp_go rfl rfl ?_
    refine e_put (fs' := [xR 72, xR 73, xR 74, xR 75, xI (s 4), xI (s 5), xI (s 6), xI (s 7), xI (s 8), xI (s 9), xI (s 10), xL (s 11), xI (t0 : Int), xI (s 13), xI (w : Int), xI (s 15), xR 76, xI (s 17), xI (s 18), xI (s 19), xI 4, xI (s 21), xI (onc ft fr), xR 77, xR 78, xR 79, xR 80, xR 81, xR 82, xR 83, xI (s 30), xR 84, xR 85, xR 86, xR 87, xR 88, xR 89, xR 90]) rfl H71p rfl rfl ?_
    refine wp_go rfl rfl ?_
    refine wp_cv rfl rfl rfl rfl rfl rfl rfl ?_
    refine c_nextT (i := i + 1) (s := (hc_u (hc_u (hc_u (hc_u s 12 (t0 : Int)) 14 (w : Int)) 22 (onc ft fr)) 20 4)) H hn rfl hTA.1 hTA.2.1 H75 (fun h1 s1 A71 A1 AME AFR => ?_)
    have B12 : s1 12 = (t0 : Int) := (AME 12 rfl).trans rfl
    have B14 : s1 14 = (w : Int) := (AME 14 rfl).trans rfl
    have B71 : h1.2.2 71 = .inr (10, [xR 72, xR 73, xR 74, xR 75, xI (s1 4), xI (s1 5), xI (s1 6), xI (s1 7), xI (s1 8), xI (s1 9), xI (s1 10), xL (s1 11), xI (t0 : Int), xI (s1 13), xI (w : Int), xI (s1 15), xR 76, xI (s1 17), xI (s1 18), xI (s1 19), xI (s1 20), xI (s1 21), xI (s1 22), xR 77, xR 78, xR 79, xR 80, xR 81, xR 82, xR 83, xI (s1 30), xR 84, xR 85, xR 86, xR 87, xR 88, xR 89, xR 90]) := by rw [← B12, ← B14]; exact A71
    have B75 := (AFR.2.2 75 rfl).trans H75
    have B76 := (AFR.2.2 76 rfl).trans H76
    have B74 := (AFR.2.2 74 rfl).trans H74
    have m1 : ME mcl s s1 := ME.tr (l1 := mcl) (fun k hk2 => meC e12 e14 k hk2) (AME.mono (nin_sub rfl)) (fun _ z => z)
    refine wp_go rfl rfl ?_
    refine e_get rfl B71 rfl rfl ?_
    refine wp_go rfl rfl ?_
    refine e_iadd rfl (by omega) ?_
    refine wp_go rfl rfl ?_
    refine wp_go rfl rfl ?_
    refine e_imul rfl (by omega) ?_
    refine e_iadd rfl (by omega) ?_
    refine e_istn (L' := [xR 71, xI 4, xI (nc : Int), xI (((t0 : Int) + 1) + (3 * (nc : Int))), none, none]) rfl rfl rfl ?_
    refine wp_go rfl rfl ?_
    refine e_get rfl B71 rfl rfl ?_
    refine wp_go rfl rfl ?_
    refine wp_go rfl rfl ?_
    refine e_iastE (p := t0 + 1 + 3 * nc) rfl B74 ⟨by omega, by omega⟩ ?_
    refine wp_go rfl rfl ?_
    refine e_get rfl B71 rfl rfl ?_
    refine e_ist (L' := [xR 71, xI 4, xI (nc : Int), xI (((t0 : Int) + 1) + (3 * (nc : Int))), xI (w : Int), none]) rfl rfl rfl ?_
    refine wp_go rfl rfl ?_
    refine wp_go rfl rfl ?_
    refine wp_go rfl rfl ?_
    refine wp_go rfl rfl ?_
    refine wp_go rfl rfl ?_
    refine wp_go rfl rfl ?_
    refine wp_cv rfl rfl rfl B71 rfl rfl rfl ?_
    rw [if_neg (show ¬ tK B n i ≤ 11 by omega)] at hr
    obtain ⟨q, hq⟩ : ∃ z, sDe (tK B n) (tN B n) i = z := ⟨_, rfl⟩
    rw [hq] at hr
    refine c_line4 (d := d + 1) (i := i) (x0 := t0 + 1 + 3 * nc) (T := hc_u T (t0 + 1 + 3 * nc) 4) H hn A71 rfl B75 A1 (by omega) hk hq (fun e h2 s2 T2 C71 C74 C1 V1 CT CME CFR => ?_) (fun fl k e h2 s2 T2 C71 C74 C8 C0 CT CME CFR => ?_)
    · skip
      subst e
      have D12 : s2 12 = (t0 : Int) := (CME 12 rfl).trans B12
      have D71 : h2.2.2 71 = .inr (10, [xR 72, xR 73, xR 74, xR 75, xI (s2 4), xI (s2 5), xI (s2 6), xI (s2 7), xI (s2 8), xI (s2 9), xI (s2 10), xL (s2 11), xI (t0 : Int), xI (s2 13), xI (s2 14), xI (s2 15), xR 76, xI (s2 17), xI (s2 18), xI (s2 19), xI (s2 20), xI (s2 21), xI (s2 22), xR 77, xR 78, xR 79, xR 80, xR 81, xR 82, xR 83, xI (s2 30), xR 84, xR 85, xR 86, xR 87, xR 88, xR 89, xR 90]) := by rw [← D12]; exact C71
      have C14 : s2 14 = (w : Int) := (CME 14 rfl).trans B14
      have C18 : s2 18 = 0 := (CME 18 rfl).trans ((AME 18 rfl).trans e18)
      have T2x : T2 (t0 + 1 + 3 * nc) = 4 := (CT _ (by omega) (by omega)).trans hu_s
      have T2n : T2 t0 = (nc : Int) := (CT _ (by omega) (by omega)).trans ((hu_n (by omega)).trans hnc)
      refine e_ist (L' := [xR 71, xI 4, xI (nc : Int), xI (((t0 : Int) + 1) + (3 * (nc : Int))), xI (w : Int), xI 0]) rfl rfl rfl ?_
      refine wp_go rfl rfl ?_
      refine wp_go rfl rfl ?_
      refine wp_go rfl rfl ?_
      refine wp_go rfl rfl ?_
      refine wp_go rfl rfl ?_
      refine wp_go rfl rfl ?_
      refine e_get rfl D71 rfl rfl ?_
      refine wp_go rfl rfl ?_
      refine e_get rfl D71 rfl rfl ?_
      refine wp_go rfl rfl ?_
      refine e_aldE (p := t0) rfl C74 rfl ⟨by omega, by omega⟩ ?_
      rw [show T2 t0 = (nc : Int) from T2n]
      refine wp_go rfl rfl ?_
      refine e_iadd rfl (by omega) ?_
      refine e_iastE (p := t0) rfl C74 ⟨by omega, by omega⟩ ?_
      refine wp_go rfl rfl ?_
      refine e_get rfl D71 rfl rfl ?_
      refine wp_go rfl rfl ?_
      refine e_ceq rfl (fun c174 => ?_) (fun c174 => ?_)
      · skip
        refine wp_go rfl rfl ?_
        refine wp_cv rfl rfl rfl D71 rfl rfl rfl ?_
        refine c_nextT (i := i + 2 + 1) (s := s2) H hn C71 C1.1 C1.2.1 ((CFR.2.2 75 rfl).trans B75) (fun h3 s3 G71 G1 GME GFR => ?_)
        refine wp_go rfl rfl ?_
        refine wp_ret rfl rfl ?_
        have z52 : tK B n (i + 2) = 52 := (mks_52 C1.2.2.2.1).1 c174
        have hl2 := tK_lt H hn (show tK B n (i + 2) ≠ 0 by rw [z52]; decide)
        dsimp only at hr
        rw [hdl] at hr
        rw [if_pos z52] at hr
        have t0x : (hc_u T2 t0 ((nc : Int) + 1)) (t0 + 1 + 3 * nc) = (14 : Int) - 10 := (hu_n (by omega)).trans T2x
        exact kok _ _ _ hr.symm h3 s3 _ f w G71 ((GFR.2.2 74 rfl).trans rfl) ((GFR.2.2 76 rfl).trans ((CFR.2.2 76 rfl).trans B76)) G1 ((GME 14 rfl).trans C14) ((GME 18 rfl).trans C18) ((GME 22 rfl).trans ((CME 22 rfl).trans ((AME 22 rfl).trans rfl))) hu_s (by omega) ⟨by rw [hk]; exact t0x, fun z => absurd z (by omega), fun z => absurd z (by omega), fun _ => (hu_n (by omega)).trans V1⟩ ⟨fun z => absurd z (by omega), fun z => absurd z (by omega)⟩ (fun a ha => (hu_n (by omega)).trans ((CT a (by omega) (by omega)).trans (hu_n (by omega)))) ((m1.tr (CME.mono (nin_sub rfl)) (fun _ z => z)).tr (GME.mono (nin_sub rfl)) (fun _ z => z)) ((((Fr.tr (l2 := mfl) (Fr.tr (l2 := mfl) (Fr.rf.wr rfl) (Fr.mono AFR (nin_sub rfl)) (fun _ z => z)) (Fr.rf.wr rfl) (fun _ z => z)).tr (Fr.mono CFR (nin_sub rfl)) (fun _ z => z)).wr rfl).tr (Fr.mono GFR (nin_sub rfl)) (fun _ z => z))
      · skip
        refine wp_go rfl rfl ?_
        refine wp_ret rfl rfl ?_
        have z52 : ¬ tK B n (i + 2) = 52 := fun z => c174 ((mks_52 C1.2.2.2.1).2 z)
        dsimp only at hr
        rw [hdl] at hr
        rw [if_neg z52] at hr
        exact kf 1 _ hr.symm _ s2 _ f C71 rfl ((CFR.2.2 76 rfl).trans B76) C1.2.2.1 (by decide) (fun a ha => (hu_n (by omega)).trans ((CT a (by omega) (by omega)).trans (hu_n (by omega)))) (m1.tr (CME.mono (nin_sub rfl)) (fun _ z => z)) (((Fr.tr (l2 := mfl) (Fr.tr (l2 := mfl) (Fr.rf.wr rfl) (Fr.mono AFR (nin_sub rfl)) (fun _ z => z)) (Fr.rf.wr rfl) (fun _ z => z)).tr (Fr.mono CFR (nin_sub rfl)) (fun _ z => z)).wr rfl)
    · skip
      subst e
      refine e_ist (L' := [xR 71, xI 4, xI (nc : Int), xI (((t0 : Int) + 1) + (3 * (nc : Int))), xI (w : Int), xI fl]) rfl rfl rfl ?_
      refine wp_go rfl rfl ?_
      refine e_ifeq rfl (fun c122 => absurd c122 C0) (fun c122 => ?_)
      refine wp_go rfl rfl ?_
      refine wp_ret rfl rfl ?_
      exact kf fl k hr.symm h2 s2 T2 f C71 C74 ((CFR.2.2 76 rfl).trans B76) C8 C0 (fun a ha => (CT a (by omega) (by omega)).trans (hu_n (by omega))) (m1.tr (CME.mono (nin_sub rfl)) (fun _ z => z)) ((Fr.tr (l2 := mfl) (Fr.tr (l2 := mfl) (Fr.rf.wr rfl) (Fr.mono AFR (nin_sub rfl)) (fun _ z => z)) (Fr.rf.wr rfl) (fun _ z => z)).tr (Fr.mono CFR (nin_sub rfl)) (fun _ z => z))
  · skip
    refine wp_go rfl rfl ?_
    refine wp_ret rfl rfl ?_
    rw [sCl, if_neg (fun z => z (show 10 ≤ tK B n i ∧ tK B n i ≤ 14 by omega)), if_neg h4, if_pos (show 24 ≤ nc by omega)] at hr
    exact kf 6 i hr.symm h s T f H71 H74 H76 hTA.2.2.1 (by decide) (fun _ _ => rfl) ME.rf Fr.rf
