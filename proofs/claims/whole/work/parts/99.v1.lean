/-! the law, one call -/
theorem INV.p {h : hc_H} {L : Nat} {xs : Nat → Int} (I : INV h L xs) : h.2.2 0 = .inl (9, L, .inl xs) ∧ ∃ n : Int, h.2.2 22 = cco n := by
  obtain ⟨cs, ks, e, ke, n, B, s, A, A2, T, hr, fo, pl, ftf, frf, ncf, rwf, g1, g2, _⟩ := I
  exact ⟨g1.1, _, g2.1⟩
set_option maxRecDepth 100000 in
theorem z_folk {d L i : Nat} {xs : Nat → Int} {h : hc_H} {Q : List hc_V → hc_H → Prop} (hi : i + 6 ≤ L) (hL : L ≤ 3072) (hx : ∀ j, -2147483648 ≤ xs j ∧ xs j ≤ 2147483647) (I : INV h L xs) (k : ∀ h2, RM L xs h h2 → hc_wp (d + 201) mL_law 905 [xR 0, xR 22, xR 71, xI (i : Int)] [] h2 Q) : hc_wp (d + 201) mL_law 148 [xR 0, xR 22, xR 71, xI (i : Int)] [] h Q := by
  obtain ⟨H0, n22, H22⟩ := I.p
  refine wp_go rfl rfl ?_
  refine wp_go rfl rfl ?_
  refine wp_go rfl rfl ?_
  refine wp_go rfl rfl ?_
  refine e_iadd rfl (by omega) ?_
  refine e_aldE (p := (i + 1)) rfl H0 rfl ⟨by omega, by omega⟩ ?_
  refine wp_cv rfl rfl rfl H22 rfl rfl rfl ?_
  refine wp_mono (y_folk I) ?_
  intro w1 h1 J
  obtain ⟨r, rfl, J0, ⟨s1, J71⟩, J⟩ := J
  refine wp_go rfl rfl ?_
  refine wp_go rfl rfl ?_
  refine wp_go rfl rfl ?_
  refine wp_go rfl rfl ?_
  refine e_iadd rfl (by omega) ?_
  refine e_aldE (p := (i + 1)) rfl J0 rfl ⟨by omega, by omega⟩ ?_
  refine wp_cv rfl rfl rfl J71 rfl rfl rfl ?_
  refine wp_mono J ?_
  intro w2 h2 J2
  obtain ⟨rfl, J2⟩ := J2
  refine e_ceq rfl (fun c166 => ?_) (fun c166 => absurd rfl c166)
  exact k h2 J2
set_option maxRecDepth 100000 in
theorem z_weather {d L i : Nat} {xs : Nat → Int} {h : hc_H} {Q : List hc_V → hc_H → Prop} (hi : i + 6 ≤ L) (hL : L ≤ 3072) (hx : ∀ j, -2147483648 ≤ xs j ∧ xs j ≤ 2147483647) (I : INV h L xs) (k : ∀ h2, RM L xs h h2 → hc_wp (d + 201) mL_law 905 [xR 0, xR 22, xR 71, xI (i : Int)] [] h2 Q) : hc_wp (d + 201) mL_law 171 [xR 0, xR 22, xR 71, xI (i : Int)] [] h Q := by
  obtain ⟨H0, n22, H22⟩ := I.p
  refine wp_go rfl rfl ?_
  refine wp_go rfl rfl ?_
  refine wp_go rfl rfl ?_
  refine wp_go rfl rfl ?_
  refine e_iadd rfl (by omega) ?_
  refine e_aldE (p := (i + 1)) rfl H0 rfl ⟨by omega, by omega⟩ ?_
  refine wp_go rfl rfl ?_
  refine wp_go rfl rfl ?_
  refine wp_go rfl rfl ?_
  refine e_iadd rfl (by omega) ?_
  refine e_aldE (p := (i + 2)) rfl H0 rfl ⟨by omega, by omega⟩ ?_
  refine wp_cv rfl rfl rfl H22 rfl rfl rfl ?_
  refine wp_mono (y_weather I) ?_
  intro w1 h1 J
  obtain ⟨r, rfl, J0, ⟨s1, J71⟩, J⟩ := J
  refine wp_go rfl rfl ?_
  refine wp_go rfl rfl ?_
  refine wp_go rfl rfl ?_
  refine wp_go rfl rfl ?_
  refine e_iadd rfl (by omega) ?_
  refine e_aldE (p := (i + 1)) rfl J0 rfl ⟨by omega, by omega⟩ ?_
  refine wp_go rfl rfl ?_
  refine wp_go rfl rfl ?_
  refine wp_go rfl rfl ?_
  refine e_iadd rfl (by omega) ?_
  refine e_aldE (p := (i + 2)) rfl J0 rfl ⟨by omega, by omega⟩ ?_
  refine wp_cv rfl rfl rfl J71 rfl rfl rfl ?_
  refine wp_mono J ?_
  intro w2 h2 J2
  obtain ⟨rfl, J2⟩ := J2
  refine e_ceq rfl (fun c199 => ?_) (fun c199 => absurd rfl c199)
  exact k h2 J2
set_option maxRecDepth 100000 in
theorem z_feed {d L i : Nat} {xs : Nat → Int} {h : hc_H} {Q : List hc_V → hc_H → Prop} (hi : i + 6 ≤ L) (hL : L ≤ 3072) (hx : ∀ j, -2147483648 ≤ xs j ∧ xs j ≤ 2147483647) (I : INV h L xs) (k : ∀ h2, RM L xs h h2 → hc_wp (d + 201) mL_law 905 [xR 0, xR 22, xR 71, xI (i : Int)] [] h2 Q) : hc_wp (d + 201) mL_law 204 [xR 0, xR 22, xR 71, xI (i : Int)] [] h Q := by
  obtain ⟨H0, n22, H22⟩ := I.p
  refine wp_go rfl rfl ?_
  refine wp_go rfl rfl ?_
  refine wp_go rfl rfl ?_
  refine wp_go rfl rfl ?_
  refine e_iadd rfl (by omega) ?_
  refine e_aldE (p := (i + 1)) rfl H0 rfl ⟨by omega, by omega⟩ ?_
  refine wp_go rfl rfl ?_
  refine wp_go rfl rfl ?_
  refine wp_go rfl rfl ?_
  refine e_iadd rfl (by omega) ?_
  refine e_aldE (p := (i + 2)) rfl H0 rfl ⟨by omega, by omega⟩ ?_
  refine wp_go rfl rfl ?_
  refine wp_go rfl rfl ?_
  refine wp_go rfl rfl ?_
  refine e_iadd rfl (by omega) ?_
  refine e_aldE (p := (i + 3)) rfl H0 rfl ⟨by omega, by omega⟩ ?_
  refine wp_go rfl rfl ?_
  refine wp_go rfl rfl ?_
  refine wp_go rfl rfl ?_
  refine e_iadd rfl (by omega) ?_
  refine e_aldE (p := (i + 4)) rfl H0 rfl ⟨by omega, by omega⟩ ?_
  refine wp_go rfl rfl ?_
  refine wp_go rfl rfl ?_
  refine wp_go rfl rfl ?_
  refine e_iadd rfl (by omega) ?_
  refine e_aldE (p := (i + 5)) rfl H0 rfl ⟨by omega, by omega⟩ ?_
  refine wp_cv rfl rfl rfl H22 rfl rfl rfl ?_
  refine wp_mono (y_feed I (hx _) (hx _) (hx _) (hx _) (hx _)) ?_
  intro w1 h1 J
  obtain ⟨r, rfl, J0, ⟨s1, J71⟩, J⟩ := J
  refine wp_go rfl rfl ?_
  refine wp_go rfl rfl ?_
  refine wp_go rfl rfl ?_
  refine wp_go rfl rfl ?_
  refine e_iadd rfl (by omega) ?_
  refine e_aldE (p := (i + 1)) rfl J0 rfl ⟨by omega, by omega⟩ ?_
  refine wp_go rfl rfl ?_
  refine wp_go rfl rfl ?_
  refine wp_go rfl rfl ?_
  refine e_iadd rfl (by omega) ?_
  refine e_aldE (p := (i + 2)) rfl J0 rfl ⟨by omega, by omega⟩ ?_
  refine wp_go rfl rfl ?_
  refine wp_go rfl rfl ?_
  refine wp_go rfl rfl ?_
  refine e_iadd rfl (by omega) ?_
  refine e_aldE (p := (i + 3)) rfl J0 rfl ⟨by omega, by omega⟩ ?_
  refine wp_go rfl rfl ?_
  refine wp_go rfl rfl ?_
  refine wp_go rfl rfl ?_
  refine e_iadd rfl (by omega) ?_
  refine e_aldE (p := (i + 4)) rfl J0 rfl ⟨by omega, by omega⟩ ?_
  refine wp_go rfl rfl ?_
  refine wp_go rfl rfl ?_
  refine wp_go rfl rfl ?_
  refine e_iadd rfl (by omega) ?_
  refine e_aldE (p := (i + 5)) rfl J0 rfl ⟨by omega, by omega⟩ ?_
  refine wp_cv rfl rfl rfl J71 rfl rfl rfl ?_
  refine wp_mono J ?_
  intro w2 h2 J2
  obtain ⟨rfl, J2⟩ := J2
  refine e_ceq rfl (fun c262 => ?_) (fun c262 => absurd rfl c262)
  exact k h2 J2
set_option maxRecDepth 100000 in
theorem z_end {d L i : Nat} {xs : Nat → Int} {h : hc_H} {Q : List hc_V → hc_H → Prop} (hi : i + 6 ≤ L) (hL : L ≤ 3072) (hx : ∀ j, -2147483648 ≤ xs j ∧ xs j ≤ 2147483647) (I : INV h L xs) (k : ∀ h2, RM L xs h h2 → hc_wp (d + 201) mL_law 905 [xR 0, xR 22, xR 71, xI (i : Int)] [] h2 Q) : hc_wp (d + 201) mL_law 267 [xR 0, xR 22, xR 71, xI (i : Int)] [] h Q := by
  obtain ⟨H0, n22, H22⟩ := I.p
  refine wp_go rfl rfl ?_
  refine wp_go rfl rfl ?_
  refine wp_go rfl rfl ?_
  refine wp_go rfl rfl ?_
  refine e_iadd rfl (by omega) ?_
  refine e_aldE (p := (i + 1)) rfl H0 rfl ⟨by omega, by omega⟩ ?_
  refine wp_cv rfl rfl rfl H22 rfl rfl rfl ?_
  refine wp_mono (y_end I) ?_
  intro w1 h1 J
  obtain ⟨r, rfl, J0, ⟨s1, J71⟩, J⟩ := J
  refine wp_go rfl rfl ?_
  refine wp_go rfl rfl ?_
  refine wp_go rfl rfl ?_
  refine wp_go rfl rfl ?_
  refine e_iadd rfl (by omega) ?_
  refine e_aldE (p := (i + 1)) rfl J0 rfl ⟨by omega, by omega⟩ ?_
  refine wp_cv rfl rfl rfl J71 rfl rfl rfl ?_
  refine wp_mono J ?_
  intro w2 h2 J2
  obtain ⟨rfl, J2⟩ := J2
  refine e_ceq rfl (fun c285 => ?_) (fun c285 => absurd rfl c285)
  exact k h2 J2
set_option maxRecDepth 100000 in
theorem z_text {d L i : Nat} {xs : Nat → Int} {h : hc_H} {Q : List hc_V → hc_H → Prop} (hi : i + 6 ≤ L) (hL : L ≤ 3072) (hx : ∀ j, -2147483648 ≤ xs j ∧ xs j ≤ 2147483647) (I : INV h L xs) (k : ∀ h2, RM L xs h h2 → hc_wp (d + 201) mL_law 905 [xR 0, xR 22, xR 71, xI (i : Int)] [] h2 Q) : hc_wp (d + 201) mL_law 290 [xR 0, xR 22, xR 71, xI (i : Int)] [] h Q := by
  obtain ⟨H0, n22, H22⟩ := I.p
  refine wp_go rfl rfl ?_
  refine wp_cv rfl rfl rfl H22 rfl rfl rfl ?_
  refine wp_mono (y_text I) ?_
  intro w1 h1 J
  obtain ⟨r, rfl, J0, ⟨s1, J71⟩, J⟩ := J
  refine wp_go rfl rfl ?_
  refine wp_cv rfl rfl rfl J71 rfl rfl rfl ?_
  refine wp_mono J ?_
  intro w2 h2 J2
  obtain ⟨rfl, J2⟩ := J2
  refine e_ceq rfl (fun c298 => ?_) (fun c298 => absurd rfl c298)
  exact k h2 J2
set_option maxRecDepth 100000 in
theorem z_fault {d L i : Nat} {xs : Nat → Int} {h : hc_H} {Q : List hc_V → hc_H → Prop} (hi : i + 6 ≤ L) (hL : L ≤ 3072) (hx : ∀ j, -2147483648 ≤ xs j ∧ xs j ≤ 2147483647) (I : INV h L xs) (k : ∀ h2, RM L xs h h2 → hc_wp (d + 201) mL_law 905 [xR 0, xR 22, xR 71, xI (i : Int)] [] h2 Q) : hc_wp (d + 201) mL_law 303 [xR 0, xR 22, xR 71, xI (i : Int)] [] h Q := by
  obtain ⟨H0, n22, H22⟩ := I.p
  refine wp_go rfl rfl ?_
  refine wp_go rfl rfl ?_
  refine wp_go rfl rfl ?_
  refine wp_go rfl rfl ?_
  refine e_iadd rfl (by omega) ?_
  refine e_aldE (p := (i + 1)) rfl H0 rfl ⟨by omega, by omega⟩ ?_
  refine wp_cv rfl rfl rfl H22 rfl rfl rfl ?_
  refine wp_mono (y_fault I) ?_
  intro w1 h1 J
  obtain ⟨r, rfl, J0, ⟨s1, J71⟩, J⟩ := J
  refine wp_go rfl rfl ?_
  refine wp_go rfl rfl ?_
  refine wp_go rfl rfl ?_
  refine wp_go rfl rfl ?_
  refine e_iadd rfl (by omega) ?_
  refine e_aldE (p := (i + 1)) rfl J0 rfl ⟨by omega, by omega⟩ ?_
  refine wp_cv rfl rfl rfl J71 rfl rfl rfl ?_
  refine wp_mono J ?_
  intro w2 h2 J2
  obtain ⟨rfl, J2⟩ := J2
  refine e_ceq rfl (fun c321 => ?_) (fun c321 => absurd rfl c321)
  exact k h2 J2
set_option maxRecDepth 100000 in
theorem z_by {d L i : Nat} {xs : Nat → Int} {h : hc_H} {Q : List hc_V → hc_H → Prop} (hi : i + 6 ≤ L) (hL : L ≤ 3072) (hx : ∀ j, -2147483648 ≤ xs j ∧ xs j ≤ 2147483647) (I : INV h L xs) (k : ∀ h2, RM L xs h h2 → hc_wp (d + 201) mL_law 905 [xR 0, xR 22, xR 71, xI (i : Int)] [] h2 Q) : hc_wp (d + 201) mL_law 326 [xR 0, xR 22, xR 71, xI (i : Int)] [] h Q := by
  obtain ⟨H0, n22, H22⟩ := I.p
  refine wp_go rfl rfl ?_
  refine wp_go rfl rfl ?_
  refine wp_go rfl rfl ?_
  refine wp_go rfl rfl ?_
  refine e_iadd rfl (by omega) ?_
  refine e_aldE (p := (i + 1)) rfl H0 rfl ⟨by omega, by omega⟩ ?_
  refine wp_cv rfl rfl rfl H22 rfl rfl rfl ?_
  refine wp_mono (y_by I) ?_
  intro w1 h1 J
  obtain ⟨r, rfl, J0, ⟨s1, J71⟩, J⟩ := J
  refine wp_go rfl rfl ?_
  refine wp_go rfl rfl ?_
  refine wp_go rfl rfl ?_
  refine wp_go rfl rfl ?_
  refine e_iadd rfl (by omega) ?_
  refine e_aldE (p := (i + 1)) rfl J0 rfl ⟨by omega, by omega⟩ ?_
  refine wp_cv rfl rfl rfl J71 rfl rfl rfl ?_
  refine wp_mono J ?_
  intro w2 h2 J2
  obtain ⟨rfl, J2⟩ := J2
  refine e_ceq rfl (fun c344 => ?_) (fun c344 => absurd rfl c344)
  exact k h2 J2
set_option maxRecDepth 100000 in
theorem z_grant {d L i : Nat} {xs : Nat → Int} {h : hc_H} {Q : List hc_V → hc_H → Prop} (hi : i + 6 ≤ L) (hL : L ≤ 3072) (hx : ∀ j, -2147483648 ≤ xs j ∧ xs j ≤ 2147483647) (I : INV h L xs) (k : ∀ h2, RM L xs h h2 → hc_wp (d + 201) mL_law 905 [xR 0, xR 22, xR 71, xI (i : Int)] [] h2 Q) : hc_wp (d + 201) mL_law 349 [xR 0, xR 22, xR 71, xI (i : Int)] [] h Q := by
  obtain ⟨H0, n22, H22⟩ := I.p
  refine wp_go rfl rfl ?_
  refine wp_go rfl rfl ?_
  refine wp_go rfl rfl ?_
  refine wp_go rfl rfl ?_
  refine e_iadd rfl (by omega) ?_
  refine e_aldE (p := (i + 1)) rfl H0 rfl ⟨by omega, by omega⟩ ?_
  refine wp_go rfl rfl ?_
  refine wp_go rfl rfl ?_
  refine wp_go rfl rfl ?_
  refine e_iadd rfl (by omega) ?_
  refine e_aldE (p := (i + 2)) rfl H0 rfl ⟨by omega, by omega⟩ ?_
  refine wp_cv rfl rfl rfl H22 rfl rfl rfl ?_
  refine wp_mono (y_grant I) ?_
  intro w1 h1 J
  obtain ⟨r, rfl, J0, ⟨s1, J71⟩, J⟩ := J
  refine wp_go rfl rfl ?_
  refine wp_go rfl rfl ?_
  refine wp_go rfl rfl ?_
  refine wp_go rfl rfl ?_
  refine e_iadd rfl (by omega) ?_
  refine e_aldE (p := (i + 1)) rfl J0 rfl ⟨by omega, by omega⟩ ?_
  refine wp_go rfl rfl ?_
  refine wp_go rfl rfl ?_
  refine wp_go rfl rfl ?_
  refine e_iadd rfl (by omega) ?_
  refine e_aldE (p := (i + 2)) rfl J0 rfl ⟨by omega, by omega⟩ ?_
  refine wp_cv rfl rfl rfl J71 rfl rfl rfl ?_
  refine wp_mono J ?_
  intro w2 h2 J2
  obtain ⟨rfl, J2⟩ := J2
  refine e_ceq rfl (fun c377 => ?_) (fun c377 => absurd rfl c377)
  exact k h2 J2
set_option maxRecDepth 100000 in
theorem z_pay {d L i : Nat} {xs : Nat → Int} {h : hc_H} {Q : List hc_V → hc_H → Prop} (hi : i + 6 ≤ L) (hL : L ≤ 3072) (hx : ∀ j, -2147483648 ≤ xs j ∧ xs j ≤ 2147483647) (I : INV h L xs) (k : ∀ h2, RM L xs h h2 → hc_wp (d + 201) mL_law 905 [xR 0, xR 22, xR 71, xI (i : Int)] [] h2 Q) : hc_wp (d + 201) mL_law 382 [xR 0, xR 22, xR 71, xI (i : Int)] [] h Q := by
  obtain ⟨H0, n22, H22⟩ := I.p
  refine wp_go rfl rfl ?_
  refine wp_go rfl rfl ?_
  refine wp_go rfl rfl ?_
  refine wp_go rfl rfl ?_
  refine e_iadd rfl (by omega) ?_
  refine e_aldE (p := (i + 1)) rfl H0 rfl ⟨by omega, by omega⟩ ?_
  refine wp_go rfl rfl ?_
  refine wp_go rfl rfl ?_
  refine wp_go rfl rfl ?_
  refine e_iadd rfl (by omega) ?_
  refine e_aldE (p := (i + 2)) rfl H0 rfl ⟨by omega, by omega⟩ ?_
  refine wp_go rfl rfl ?_
  refine wp_go rfl rfl ?_
  refine wp_go rfl rfl ?_
  refine e_iadd rfl (by omega) ?_
  refine e_aldE (p := (i + 3)) rfl H0 rfl ⟨by omega, by omega⟩ ?_
  refine wp_go rfl rfl ?_
  refine wp_go rfl rfl ?_
  refine wp_go rfl rfl ?_
  refine e_iadd rfl (by omega) ?_
  refine e_aldE (p := (i + 4)) rfl H0 rfl ⟨by omega, by omega⟩ ?_
  refine wp_cv rfl rfl rfl H22 rfl rfl rfl ?_
  refine wp_mono (y_pay I) ?_
  intro w1 h1 J
  obtain ⟨r, rfl, J0, ⟨s1, J71⟩, J⟩ := J
  refine wp_go rfl rfl ?_
  refine wp_go rfl rfl ?_
  refine wp_go rfl rfl ?_
  refine wp_go rfl rfl ?_
  refine e_iadd rfl (by omega) ?_
  refine e_aldE (p := (i + 1)) rfl J0 rfl ⟨by omega, by omega⟩ ?_
  refine wp_go rfl rfl ?_
  refine wp_go rfl rfl ?_
  refine wp_go rfl rfl ?_
  refine e_iadd rfl (by omega) ?_
  refine e_aldE (p := (i + 2)) rfl J0 rfl ⟨by omega, by omega⟩ ?_
  refine wp_go rfl rfl ?_
  refine wp_go rfl rfl ?_
  refine wp_go rfl rfl ?_
  refine e_iadd rfl (by omega) ?_
  refine e_aldE (p := (i + 3)) rfl J0 rfl ⟨by omega, by omega⟩ ?_
  refine wp_go rfl rfl ?_
  refine wp_go rfl rfl ?_
  refine wp_go rfl rfl ?_
  refine e_iadd rfl (by omega) ?_
  refine e_aldE (p := (i + 4)) rfl J0 rfl ⟨by omega, by omega⟩ ?_
  refine wp_cv rfl rfl rfl J71 rfl rfl rfl ?_
  refine wp_mono J ?_
  intro w2 h2 J2
  obtain ⟨rfl, J2⟩ := J2
  refine e_ceq rfl (fun c430 => ?_) (fun c430 => absurd rfl c430)
  exact k h2 J2
set_option maxRecDepth 100000 in
theorem z_pass {d L i : Nat} {xs : Nat → Int} {h : hc_H} {Q : List hc_V → hc_H → Prop} (hi : i + 6 ≤ L) (hL : L ≤ 3072) (hx : ∀ j, -2147483648 ≤ xs j ∧ xs j ≤ 2147483647) (I : INV h L xs) (k : ∀ h2, RM L xs h h2 → hc_wp (d + 201) mL_law 905 [xR 0, xR 22, xR 71, xI (i : Int)] [] h2 Q) : hc_wp (d + 201) mL_law 435 [xR 0, xR 22, xR 71, xI (i : Int)] [] h Q := by
  obtain ⟨H0, n22, H22⟩ := I.p
  refine wp_go rfl rfl ?_
  refine wp_go rfl rfl ?_
  refine wp_go rfl rfl ?_
  refine wp_go rfl rfl ?_
  refine e_iadd rfl (by omega) ?_
  refine e_aldE (p := (i + 1)) rfl H0 rfl ⟨by omega, by omega⟩ ?_
  refine wp_cv rfl rfl rfl H22 rfl rfl rfl ?_
  refine wp_mono (y_pass I) ?_
  intro w1 h1 J
  obtain ⟨r, rfl, J0, ⟨s1, J71⟩, J⟩ := J
  refine wp_go rfl rfl ?_
  refine wp_go rfl rfl ?_
  refine wp_go rfl rfl ?_
  refine wp_go rfl rfl ?_
  refine e_iadd rfl (by omega) ?_
  refine e_aldE (p := (i + 1)) rfl J0 rfl ⟨by omega, by omega⟩ ?_
  refine wp_cv rfl rfl rfl J71 rfl rfl rfl ?_
  refine wp_mono J ?_
  intro w2 h2 J2
  obtain ⟨rfl, J2⟩ := J2
  refine e_ceq rfl (fun c453 => ?_) (fun c453 => absurd rfl c453)
  exact k h2 J2
set_option maxRecDepth 100000 in
theorem z_played {d L i : Nat} {xs : Nat → Int} {h : hc_H} {Q : List hc_V → hc_H → Prop} (hi : i + 6 ≤ L) (hL : L ≤ 3072) (hx : ∀ j, -2147483648 ≤ xs j ∧ xs j ≤ 2147483647) (I : INV h L xs) (k : ∀ h2, RM L xs h h2 → hc_wp (d + 201) mL_law 905 [xR 0, xR 22, xR 71, xI (i : Int)] [] h2 Q) : hc_wp (d + 201) mL_law 458 [xR 0, xR 22, xR 71, xI (i : Int)] [] h Q := by
  obtain ⟨H0, n22, H22⟩ := I.p
  refine wp_go rfl rfl ?_
  refine wp_go rfl rfl ?_
  refine wp_go rfl rfl ?_
  refine wp_go rfl rfl ?_
  refine e_iadd rfl (by omega) ?_
  refine e_aldE (p := (i + 1)) rfl H0 rfl ⟨by omega, by omega⟩ ?_
  refine wp_cv rfl rfl rfl H22 rfl rfl rfl ?_
  refine wp_mono (y_played I) ?_
  intro w1 h1 J
  obtain ⟨r, rfl, J0, ⟨s1, J71⟩, J⟩ := J
  refine wp_go rfl rfl ?_
  refine wp_go rfl rfl ?_
  refine wp_go rfl rfl ?_
  refine wp_go rfl rfl ?_
  refine e_iadd rfl (by omega) ?_
  refine e_aldE (p := (i + 1)) rfl J0 rfl ⟨by omega, by omega⟩ ?_
  refine wp_cv rfl rfl rfl J71 rfl rfl rfl ?_
  refine wp_mono J ?_
  intro w2 h2 J2
  obtain ⟨rfl, J2⟩ := J2
  refine e_ceq rfl (fun c476 => ?_) (fun c476 => absurd rfl c476)
  exact k h2 J2
set_option maxRecDepth 100000 in
theorem z_undo {d L i : Nat} {xs : Nat → Int} {h : hc_H} {Q : List hc_V → hc_H → Prop} (hi : i + 6 ≤ L) (hL : L ≤ 3072) (hx : ∀ j, -2147483648 ≤ xs j ∧ xs j ≤ 2147483647) (I : INV h L xs) (k : ∀ h2, RM L xs h h2 → hc_wp (d + 201) mL_law 905 [xR 0, xR 22, xR 71, xI (i : Int)] [] h2 Q) : hc_wp (d + 201) mL_law 481 [xR 0, xR 22, xR 71, xI (i : Int)] [] h Q := by
  obtain ⟨H0, n22, H22⟩ := I.p
  refine wp_go rfl rfl ?_
  refine wp_cv rfl rfl rfl H22 rfl rfl rfl ?_
  refine wp_mono (y_undo I) ?_
  intro w1 h1 J
  obtain ⟨r, rfl, J0, ⟨s1, J71⟩, J⟩ := J
  refine wp_go rfl rfl ?_
  refine wp_cv rfl rfl rfl J71 rfl rfl rfl ?_
  refine wp_mono J ?_
  intro w2 h2 J2
  obtain ⟨rfl, J2⟩ := J2
  refine e_ceq rfl (fun c489 => ?_) (fun c489 => absurd rfl c489)
  exact k h2 J2
set_option maxRecDepth 100000 in
theorem z_marks {d L i : Nat} {xs : Nat → Int} {h : hc_H} {Q : List hc_V → hc_H → Prop} (hi : i + 6 ≤ L) (hL : L ≤ 3072) (hx : ∀ j, -2147483648 ≤ xs j ∧ xs j ≤ 2147483647) (I : INV h L xs) (k : ∀ h2, RM L xs h h2 → hc_wp (d + 201) mL_law 905 [xR 0, xR 22, xR 71, xI (i : Int)] [] h2 Q) : hc_wp (d + 201) mL_law 494 [xR 0, xR 22, xR 71, xI (i : Int)] [] h Q := by
  obtain ⟨H0, n22, H22⟩ := I.p
  refine wp_go rfl rfl ?_
  refine wp_go rfl rfl ?_
  refine wp_go rfl rfl ?_
  refine wp_go rfl rfl ?_
  refine e_iadd rfl (by omega) ?_
  refine e_aldE (p := (i + 1)) rfl H0 rfl ⟨by omega, by omega⟩ ?_
  refine wp_cv rfl rfl rfl H22 rfl rfl rfl ?_
  refine wp_mono (y_marks I) ?_
  intro w1 h1 J
  obtain ⟨r, rfl, J0, ⟨s1, J71⟩, J⟩ := J
  refine wp_go rfl rfl ?_
  refine wp_go rfl rfl ?_
  refine wp_go rfl rfl ?_
  refine wp_go rfl rfl ?_
  refine e_iadd rfl (by omega) ?_
  refine e_aldE (p := (i + 1)) rfl J0 rfl ⟨by omega, by omega⟩ ?_
  refine wp_cv rfl rfl rfl J71 rfl rfl rfl ?_
  refine wp_mono J ?_
  intro w2 h2 J2
  obtain ⟨rfl, J2⟩ := J2
  refine e_ceq rfl (fun c512 => ?_) (fun c512 => absurd rfl c512)
  exact k h2 J2
set_option maxRecDepth 100000 in
theorem z_share {d L i : Nat} {xs : Nat → Int} {h : hc_H} {Q : List hc_V → hc_H → Prop} (hi : i + 6 ≤ L) (hL : L ≤ 3072) (hx : ∀ j, -2147483648 ≤ xs j ∧ xs j ≤ 2147483647) (I : INV h L xs) (k : ∀ h2, RM L xs h h2 → hc_wp (d + 201) mL_law 905 [xR 0, xR 22, xR 71, xI (i : Int)] [] h2 Q) : hc_wp (d + 201) mL_law 517 [xR 0, xR 22, xR 71, xI (i : Int)] [] h Q := by
  obtain ⟨H0, n22, H22⟩ := I.p
  refine wp_go rfl rfl ?_
  refine wp_go rfl rfl ?_
  refine wp_go rfl rfl ?_
  refine wp_go rfl rfl ?_
  refine e_iadd rfl (by omega) ?_
  refine e_aldE (p := (i + 1)) rfl H0 rfl ⟨by omega, by omega⟩ ?_
  refine wp_go rfl rfl ?_
  refine wp_go rfl rfl ?_
  refine wp_go rfl rfl ?_
  refine e_iadd rfl (by omega) ?_
  refine e_aldE (p := (i + 2)) rfl H0 rfl ⟨by omega, by omega⟩ ?_
  refine wp_cv rfl rfl rfl H22 rfl rfl rfl ?_
  refine wp_mono (y_share I) ?_
  intro w1 h1 J
  obtain ⟨r, rfl, J0, ⟨s1, J71⟩, J⟩ := J
  refine wp_go rfl rfl ?_
  refine wp_go rfl rfl ?_
  refine wp_go rfl rfl ?_
  refine wp_go rfl rfl ?_
  refine e_iadd rfl (by omega) ?_
  refine e_aldE (p := (i + 1)) rfl J0 rfl ⟨by omega, by omega⟩ ?_
  refine wp_go rfl rfl ?_
  refine wp_go rfl rfl ?_
  refine wp_go rfl rfl ?_
  refine e_iadd rfl (by omega) ?_
  refine e_aldE (p := (i + 2)) rfl J0 rfl ⟨by omega, by omega⟩ ?_
  refine wp_cv rfl rfl rfl J71 rfl rfl rfl ?_
  refine wp_mono J ?_
  intro w2 h2 J2
  obtain ⟨rfl, J2⟩ := J2
  refine e_ceq rfl (fun c545 => ?_) (fun c545 => absurd rfl c545)
  exact k h2 J2
set_option maxRecDepth 100000 in
theorem z_owes {d L i : Nat} {xs : Nat → Int} {h : hc_H} {Q : List hc_V → hc_H → Prop} (hi : i + 6 ≤ L) (hL : L ≤ 3072) (hx : ∀ j, -2147483648 ≤ xs j ∧ xs j ≤ 2147483647) (I : INV h L xs) (k : ∀ h2, RM L xs h h2 → hc_wp (d + 201) mL_law 905 [xR 0, xR 22, xR 71, xI (i : Int)] [] h2 Q) : hc_wp (d + 201) mL_law 550 [xR 0, xR 22, xR 71, xI (i : Int)] [] h Q := by
  obtain ⟨H0, n22, H22⟩ := I.p
  refine wp_go rfl rfl ?_
  refine wp_go rfl rfl ?_
  refine wp_go rfl rfl ?_
  refine wp_go rfl rfl ?_
  refine e_iadd rfl (by omega) ?_
  refine e_aldE (p := (i + 1)) rfl H0 rfl ⟨by omega, by omega⟩ ?_
  refine wp_go rfl rfl ?_
  refine wp_go rfl rfl ?_
  refine wp_go rfl rfl ?_
  refine e_iadd rfl (by omega) ?_
  refine e_aldE (p := (i + 2)) rfl H0 rfl ⟨by omega, by omega⟩ ?_
  refine wp_go rfl rfl ?_
  refine wp_go rfl rfl ?_
  refine wp_go rfl rfl ?_
  refine e_iadd rfl (by omega) ?_
  refine e_aldE (p := (i + 3)) rfl H0 rfl ⟨by omega, by omega⟩ ?_
  refine wp_cv rfl rfl rfl H22 rfl rfl rfl ?_
  refine wp_mono (y_owes I) ?_
  intro w1 h1 J
  obtain ⟨r, rfl, J0, ⟨s1, J71⟩, J⟩ := J
  refine wp_go rfl rfl ?_
  refine wp_go rfl rfl ?_
  refine wp_go rfl rfl ?_
  refine wp_go rfl rfl ?_
  refine e_iadd rfl (by omega) ?_
  refine e_aldE (p := (i + 1)) rfl J0 rfl ⟨by omega, by omega⟩ ?_
  refine wp_go rfl rfl ?_
  refine wp_go rfl rfl ?_
  refine wp_go rfl rfl ?_
  refine e_iadd rfl (by omega) ?_
  refine e_aldE (p := (i + 2)) rfl J0 rfl ⟨by omega, by omega⟩ ?_
  refine wp_go rfl rfl ?_
  refine wp_go rfl rfl ?_
  refine wp_go rfl rfl ?_
  refine e_iadd rfl (by omega) ?_
  refine e_aldE (p := (i + 3)) rfl J0 rfl ⟨by omega, by omega⟩ ?_
  refine wp_cv rfl rfl rfl J71 rfl rfl rfl ?_
  refine wp_mono J ?_
  intro w2 h2 J2
  obtain ⟨rfl, J2⟩ := J2
  refine e_ceq rfl (fun c588 => ?_) (fun c588 => absurd rfl c588)
  exact k h2 J2
set_option maxRecDepth 100000 in
theorem z_netted {d L i : Nat} {xs : Nat → Int} {h : hc_H} {Q : List hc_V → hc_H → Prop} (hi : i + 6 ≤ L) (hL : L ≤ 3072) (hx : ∀ j, -2147483648 ≤ xs j ∧ xs j ≤ 2147483647) (I : INV h L xs) (k : ∀ h2, RM L xs h h2 → hc_wp (d + 201) mL_law 905 [xR 0, xR 22, xR 71, xI (i : Int)] [] h2 Q) : hc_wp (d + 201) mL_law 593 [xR 0, xR 22, xR 71, xI (i : Int)] [] h Q := by
  obtain ⟨H0, n22, H22⟩ := I.p
  refine wp_go rfl rfl ?_
  refine wp_go rfl rfl ?_
  refine wp_go rfl rfl ?_
  refine wp_go rfl rfl ?_
  refine e_iadd rfl (by omega) ?_
  refine e_aldE (p := (i + 1)) rfl H0 rfl ⟨by omega, by omega⟩ ?_
  refine wp_go rfl rfl ?_
  refine wp_go rfl rfl ?_
  refine wp_go rfl rfl ?_
  refine e_iadd rfl (by omega) ?_
  refine e_aldE (p := (i + 2)) rfl H0 rfl ⟨by omega, by omega⟩ ?_
  refine wp_cv rfl rfl rfl H22 rfl rfl rfl ?_
  refine wp_mono (y_netted I) ?_
  intro w1 h1 J
  obtain ⟨r, rfl, J0, ⟨s1, J71⟩, J⟩ := J
  refine wp_go rfl rfl ?_
  refine wp_go rfl rfl ?_
  refine wp_go rfl rfl ?_
  refine wp_go rfl rfl ?_
  refine e_iadd rfl (by omega) ?_
  refine e_aldE (p := (i + 1)) rfl J0 rfl ⟨by omega, by omega⟩ ?_
  refine wp_go rfl rfl ?_
  refine wp_go rfl rfl ?_
  refine wp_go rfl rfl ?_
  refine e_iadd rfl (by omega) ?_
  refine e_aldE (p := (i + 2)) rfl J0 rfl ⟨by omega, by omega⟩ ?_
  refine wp_cv rfl rfl rfl J71 rfl rfl rfl ?_
  refine wp_mono J ?_
  intro w2 h2 J2
  obtain ⟨rfl, J2⟩ := J2
  refine e_ceq rfl (fun c621 => ?_) (fun c621 => absurd rfl c621)
  exact k h2 J2
set_option maxRecDepth 100000 in
theorem z_married {d L i : Nat} {xs : Nat → Int} {h : hc_H} {Q : List hc_V → hc_H → Prop} (hi : i + 6 ≤ L) (hL : L ≤ 3072) (hx : ∀ j, -2147483648 ≤ xs j ∧ xs j ≤ 2147483647) (I : INV h L xs) (k : ∀ h2, RM L xs h h2 → hc_wp (d + 201) mL_law 905 [xR 0, xR 22, xR 71, xI (i : Int)] [] h2 Q) : hc_wp (d + 201) mL_law 626 [xR 0, xR 22, xR 71, xI (i : Int)] [] h Q := by
  obtain ⟨H0, n22, H22⟩ := I.p
  refine wp_go rfl rfl ?_
  refine wp_go rfl rfl ?_
  refine wp_go rfl rfl ?_
  refine wp_go rfl rfl ?_
  refine e_iadd rfl (by omega) ?_
  refine e_aldE (p := (i + 1)) rfl H0 rfl ⟨by omega, by omega⟩ ?_
  refine wp_cv rfl rfl rfl H22 rfl rfl rfl ?_
  refine wp_mono (y_married I) ?_
  intro w1 h1 J
  obtain ⟨r, rfl, J0, ⟨s1, J71⟩, J⟩ := J
  refine wp_go rfl rfl ?_
  refine wp_go rfl rfl ?_
  refine wp_go rfl rfl ?_
  refine wp_go rfl rfl ?_
  refine e_iadd rfl (by omega) ?_
  refine e_aldE (p := (i + 1)) rfl J0 rfl ⟨by omega, by omega⟩ ?_
  refine wp_cv rfl rfl rfl J71 rfl rfl rfl ?_
  refine wp_mono J ?_
  intro w2 h2 J2
  obtain ⟨rfl, J2⟩ := J2
  refine e_ceq rfl (fun c644 => ?_) (fun c644 => absurd rfl c644)
  exact k h2 J2
set_option maxRecDepth 100000 in
theorem z_bell {d L i : Nat} {xs : Nat → Int} {h : hc_H} {Q : List hc_V → hc_H → Prop} (hi : i + 6 ≤ L) (hL : L ≤ 3072) (hx : ∀ j, -2147483648 ≤ xs j ∧ xs j ≤ 2147483647) (I : INV h L xs) (k : ∀ h2, RM L xs h h2 → hc_wp (d + 201) mL_law 905 [xR 0, xR 22, xR 71, xI (i : Int)] [] h2 Q) : hc_wp (d + 201) mL_law 649 [xR 0, xR 22, xR 71, xI (i : Int)] [] h Q := by
  obtain ⟨H0, n22, H22⟩ := I.p
  refine wp_go rfl rfl ?_
  refine wp_go rfl rfl ?_
  refine wp_go rfl rfl ?_
  refine wp_go rfl rfl ?_
  refine e_iadd rfl (by omega) ?_
  refine e_aldE (p := (i + 1)) rfl H0 rfl ⟨by omega, by omega⟩ ?_
  refine wp_go rfl rfl ?_
  refine wp_go rfl rfl ?_
  refine wp_go rfl rfl ?_
  refine e_iadd rfl (by omega) ?_
  refine e_aldE (p := (i + 2)) rfl H0 rfl ⟨by omega, by omega⟩ ?_
  refine wp_cv rfl rfl rfl H22 rfl rfl rfl ?_
  refine wp_mono (y_bell I) ?_
  intro w1 h1 J
  obtain ⟨r, rfl, J0, ⟨s1, J71⟩, J⟩ := J
  refine wp_go rfl rfl ?_
  refine wp_go rfl rfl ?_
  refine wp_go rfl rfl ?_
  refine wp_go rfl rfl ?_
  refine e_iadd rfl (by omega) ?_
  refine e_aldE (p := (i + 1)) rfl J0 rfl ⟨by omega, by omega⟩ ?_
  refine wp_go rfl rfl ?_
  refine wp_go rfl rfl ?_
  refine wp_go rfl rfl ?_
  refine e_iadd rfl (by omega) ?_
  refine e_aldE (p := (i + 2)) rfl J0 rfl ⟨by omega, by omega⟩ ?_
  refine wp_cv rfl rfl rfl J71 rfl rfl rfl ?_
  refine wp_mono J ?_
  intro w2 h2 J2
  obtain ⟨rfl, J2⟩ := J2
  refine e_ceq rfl (fun c677 => ?_) (fun c677 => absurd rfl c677)
  exact k h2 J2
set_option maxRecDepth 100000 in
theorem z_cost {d L i : Nat} {xs : Nat → Int} {h : hc_H} {Q : List hc_V → hc_H → Prop} (hi : i + 6 ≤ L) (hL : L ≤ 3072) (hx : ∀ j, -2147483648 ≤ xs j ∧ xs j ≤ 2147483647) (I : INV h L xs) (k : ∀ h2, RM L xs h h2 → hc_wp (d + 201) mL_law 905 [xR 0, xR 22, xR 71, xI (i : Int)] [] h2 Q) : hc_wp (d + 201) mL_law 682 [xR 0, xR 22, xR 71, xI (i : Int)] [] h Q := by
  obtain ⟨H0, n22, H22⟩ := I.p
  refine wp_go rfl rfl ?_
  refine wp_go rfl rfl ?_
  refine wp_go rfl rfl ?_
  refine wp_go rfl rfl ?_
  refine e_iadd rfl (by omega) ?_
  refine e_aldE (p := (i + 1)) rfl H0 rfl ⟨by omega, by omega⟩ ?_
  refine wp_go rfl rfl ?_
  refine wp_go rfl rfl ?_
  refine wp_go rfl rfl ?_
  refine e_iadd rfl (by omega) ?_
  refine e_aldE (p := (i + 2)) rfl H0 rfl ⟨by omega, by omega⟩ ?_
  refine wp_go rfl rfl ?_
  refine wp_go rfl rfl ?_
  refine wp_go rfl rfl ?_
  refine e_iadd rfl (by omega) ?_
  refine e_aldE (p := (i + 3)) rfl H0 rfl ⟨by omega, by omega⟩ ?_
  refine wp_go rfl rfl ?_
  refine wp_go rfl rfl ?_
  refine wp_go rfl rfl ?_
  refine e_iadd rfl (by omega) ?_
  refine e_aldE (p := (i + 4)) rfl H0 rfl ⟨by omega, by omega⟩ ?_
  refine e_ifeq rfl (fun c703 => ?_) (fun c703 => ?_)
  · skip
    refine wp_go rfl rfl ?_
    refine wp_cv rfl rfl rfl H22 rfl rfl rfl ?_
    refine wp_mono (y_cost0 I) ?_
    intro w1 h1 J
    obtain ⟨r, rfl, J0, ⟨s1, J71⟩, J⟩ := J
    refine wp_go rfl rfl ?_
    refine wp_go rfl rfl ?_
    refine wp_go rfl rfl ?_
    refine wp_go rfl rfl ?_
    refine e_iadd rfl (by omega) ?_
    refine e_aldE (p := (i + 1)) rfl J0 rfl ⟨by omega, by omega⟩ ?_
    refine wp_go rfl rfl ?_
    refine wp_go rfl rfl ?_
    refine wp_go rfl rfl ?_
    refine e_iadd rfl (by omega) ?_
    refine e_aldE (p := (i + 2)) rfl J0 rfl ⟨by omega, by omega⟩ ?_
    refine wp_go rfl rfl ?_
    refine wp_go rfl rfl ?_
    refine wp_go rfl rfl ?_
    refine e_iadd rfl (by omega) ?_
    refine e_aldE (p := (i + 3)) rfl J0 rfl ⟨by omega, by omega⟩ ?_
    refine wp_go rfl rfl ?_
    refine wp_go rfl rfl ?_
    refine wp_go rfl rfl ?_
    refine e_iadd rfl (by omega) ?_
    refine e_aldE (p := (i + 4)) rfl J0 rfl ⟨by omega, by omega⟩ ?_
    refine e_ifeq rfl (fun _ => ?_) (fun c => absurd c703 c)
    refine wp_go rfl rfl ?_
    refine wp_cv rfl rfl rfl J71 rfl rfl rfl ?_
    refine wp_mono J ?_
    intro w2 h2 J2
    obtain ⟨rfl, J2⟩ := J2
    refine e_ceq rfl (fun c746 => ?_) (fun c746 => absurd rfl c746)
    exact k h2 J2
  · skip
    refine wp_go rfl rfl ?_
    refine wp_go rfl rfl ?_
    refine wp_cv rfl rfl rfl H22 rfl rfl rfl ?_
    refine wp_mono (y_cost1 I) ?_
    intro w1 h1 J
    obtain ⟨r, rfl, J0, ⟨s1, J71⟩, J⟩ := J
    refine wp_go rfl rfl ?_
    refine wp_go rfl rfl ?_
    refine wp_go rfl rfl ?_
    refine wp_go rfl rfl ?_
    refine e_iadd rfl (by omega) ?_
    refine e_aldE (p := (i + 1)) rfl J0 rfl ⟨by omega, by omega⟩ ?_
    refine wp_go rfl rfl ?_
    refine wp_go rfl rfl ?_
    refine wp_go rfl rfl ?_
    refine e_iadd rfl (by omega) ?_
    refine e_aldE (p := (i + 2)) rfl J0 rfl ⟨by omega, by omega⟩ ?_
    refine wp_go rfl rfl ?_
    refine wp_go rfl rfl ?_
    refine wp_go rfl rfl ?_
    refine e_iadd rfl (by omega) ?_
    refine e_aldE (p := (i + 3)) rfl J0 rfl ⟨by omega, by omega⟩ ?_
    refine wp_go rfl rfl ?_
    refine wp_go rfl rfl ?_
    refine wp_go rfl rfl ?_
    refine e_iadd rfl (by omega) ?_
    refine e_aldE (p := (i + 4)) rfl J0 rfl ⟨by omega, by omega⟩ ?_
    refine e_ifeq rfl (fun c => absurd c c703) (fun _ => ?_)
    refine wp_go rfl rfl ?_
    refine wp_go rfl rfl ?_
    refine wp_cv rfl rfl rfl J71 rfl rfl rfl ?_
    refine wp_mono J ?_
    intro w2 h2 J2
    obtain ⟨rfl, J2⟩ := J2
    refine e_ceq rfl (fun c746 => ?_) (fun c746 => absurd rfl c746)
    exact k h2 J2
set_option maxRecDepth 100000 in
theorem z_best {d L i : Nat} {xs : Nat → Int} {h : hc_H} {Q : List hc_V → hc_H → Prop} (hi : i + 6 ≤ L) (hL : L ≤ 3072) (hx : ∀ j, -2147483648 ≤ xs j ∧ xs j ≤ 2147483647) (I : INV h L xs) (k : ∀ h2, RM L xs h h2 → hc_wp (d + 201) mL_law 905 [xR 0, xR 22, xR 71, xI (i : Int)] [] h2 Q) : hc_wp (d + 201) mL_law 751 [xR 0, xR 22, xR 71, xI (i : Int)] [] h Q := by
  obtain ⟨H0, n22, H22⟩ := I.p
  refine wp_go rfl rfl ?_
  refine wp_go rfl rfl ?_
  refine wp_go rfl rfl ?_
  refine wp_go rfl rfl ?_
  refine e_iadd rfl (by omega) ?_
  refine e_aldE (p := (i + 1)) rfl H0 rfl ⟨by omega, by omega⟩ ?_
  refine wp_go rfl rfl ?_
  refine wp_go rfl rfl ?_
  refine wp_go rfl rfl ?_
  refine e_iadd rfl (by omega) ?_
  refine e_aldE (p := (i + 2)) rfl H0 rfl ⟨by omega, by omega⟩ ?_
  refine e_ifeq rfl (fun c762 => ?_) (fun c762 => ?_)
  · skip
    refine wp_go rfl rfl ?_
    refine wp_cv rfl rfl rfl H22 rfl rfl rfl ?_
    refine wp_mono (y_best0 I) ?_
    intro w1 h1 J
    obtain ⟨r, rfl, J0, ⟨s1, J71⟩, J⟩ := J
    refine wp_go rfl rfl ?_
    refine wp_go rfl rfl ?_
    refine wp_go rfl rfl ?_
    refine wp_go rfl rfl ?_
    refine e_iadd rfl (by omega) ?_
    refine e_aldE (p := (i + 1)) rfl J0 rfl ⟨by omega, by omega⟩ ?_
    refine wp_go rfl rfl ?_
    refine wp_go rfl rfl ?_
    refine wp_go rfl rfl ?_
    refine e_iadd rfl (by omega) ?_
    refine e_aldE (p := (i + 2)) rfl J0 rfl ⟨by omega, by omega⟩ ?_
    refine e_ifeq rfl (fun _ => ?_) (fun c => absurd c762 c)
    refine wp_go rfl rfl ?_
    refine wp_cv rfl rfl rfl J71 rfl rfl rfl ?_
    refine wp_mono J ?_
    intro w2 h2 J2
    obtain ⟨rfl, J2⟩ := J2
    refine e_ceq rfl (fun c795 => ?_) (fun c795 => absurd rfl c795)
    exact k h2 J2
  · skip
    refine wp_go rfl rfl ?_
    refine wp_go rfl rfl ?_
    refine wp_cv rfl rfl rfl H22 rfl rfl rfl ?_
    refine wp_mono (y_best1 I) ?_
    intro w1 h1 J
    obtain ⟨r, rfl, J0, ⟨s1, J71⟩, J⟩ := J
    refine wp_go rfl rfl ?_
    refine wp_go rfl rfl ?_
    refine wp_go rfl rfl ?_
    refine wp_go rfl rfl ?_
    refine e_iadd rfl (by omega) ?_
    refine e_aldE (p := (i + 1)) rfl J0 rfl ⟨by omega, by omega⟩ ?_
    refine wp_go rfl rfl ?_
    refine wp_go rfl rfl ?_
    refine wp_go rfl rfl ?_
    refine e_iadd rfl (by omega) ?_
    refine e_aldE (p := (i + 2)) rfl J0 rfl ⟨by omega, by omega⟩ ?_
    refine e_ifeq rfl (fun c => absurd c c762) (fun _ => ?_)
    refine wp_go rfl rfl ?_
    refine wp_go rfl rfl ?_
    refine wp_cv rfl rfl rfl J71 rfl rfl rfl ?_
    refine wp_mono J ?_
    intro w2 h2 J2
    obtain ⟨rfl, J2⟩ := J2
    refine e_ceq rfl (fun c795 => ?_) (fun c795 => absurd rfl c795)
    exact k h2 J2
set_option maxRecDepth 100000 in
theorem z_seen {d L i : Nat} {xs : Nat → Int} {h : hc_H} {Q : List hc_V → hc_H → Prop} (hi : i + 6 ≤ L) (hL : L ≤ 3072) (hx : ∀ j, -2147483648 ≤ xs j ∧ xs j ≤ 2147483647) (I : INV h L xs) (k : ∀ h2, RM L xs h h2 → hc_wp (d + 201) mL_law 905 [xR 0, xR 22, xR 71, xI (i : Int)] [] h2 Q) : hc_wp (d + 201) mL_law 800 [xR 0, xR 22, xR 71, xI (i : Int)] [] h Q := by
  obtain ⟨H0, n22, H22⟩ := I.p
  refine wp_go rfl rfl ?_
  refine wp_go rfl rfl ?_
  refine wp_go rfl rfl ?_
  refine wp_go rfl rfl ?_
  refine e_iadd rfl (by omega) ?_
  refine e_aldE (p := (i + 1)) rfl H0 rfl ⟨by omega, by omega⟩ ?_
  refine wp_cv rfl rfl rfl H22 rfl rfl rfl ?_
  refine wp_mono (y_seen I) ?_
  intro w1 h1 J
  obtain ⟨r, rfl, J0, ⟨s1, J71⟩, J⟩ := J
  refine wp_go rfl rfl ?_
  refine wp_go rfl rfl ?_
  refine wp_go rfl rfl ?_
  refine wp_go rfl rfl ?_
  refine e_iadd rfl (by omega) ?_
  refine e_aldE (p := (i + 1)) rfl J0 rfl ⟨by omega, by omega⟩ ?_
  refine wp_cv rfl rfl rfl J71 rfl rfl rfl ?_
  refine wp_mono J ?_
  intro w2 h2 J2
  obtain ⟨rfl, J2⟩ := J2
  refine e_ceq rfl (fun c818 => ?_) (fun c818 => absurd rfl c818)
  exact k h2 J2
set_option maxRecDepth 100000 in
theorem z_rubbed {d L i : Nat} {xs : Nat → Int} {h : hc_H} {Q : List hc_V → hc_H → Prop} (hi : i + 6 ≤ L) (hL : L ≤ 3072) (hx : ∀ j, -2147483648 ≤ xs j ∧ xs j ≤ 2147483647) (I : INV h L xs) (k : ∀ h2, RM L xs h h2 → hc_wp (d + 201) mL_law 905 [xR 0, xR 22, xR 71, xI (i : Int)] [] h2 Q) : hc_wp (d + 201) mL_law 823 [xR 0, xR 22, xR 71, xI (i : Int)] [] h Q := by
  obtain ⟨H0, n22, H22⟩ := I.p
  refine wp_go rfl rfl ?_
  refine wp_go rfl rfl ?_
  refine wp_go rfl rfl ?_
  refine wp_go rfl rfl ?_
  refine e_iadd rfl (by omega) ?_
  refine e_aldE (p := (i + 1)) rfl H0 rfl ⟨by omega, by omega⟩ ?_
  refine wp_go rfl rfl ?_
  refine wp_go rfl rfl ?_
  refine wp_go rfl rfl ?_
  refine e_iadd rfl (by omega) ?_
  refine e_aldE (p := (i + 2)) rfl H0 rfl ⟨by omega, by omega⟩ ?_
  refine wp_cv rfl rfl rfl H22 rfl rfl rfl ?_
  refine wp_mono (y_rubbed I) ?_
  intro w1 h1 J
  obtain ⟨r, rfl, J0, ⟨s1, J71⟩, J⟩ := J
  refine wp_go rfl rfl ?_
  refine wp_go rfl rfl ?_
  refine wp_go rfl rfl ?_
  refine wp_go rfl rfl ?_
  refine e_iadd rfl (by omega) ?_
  refine e_aldE (p := (i + 1)) rfl J0 rfl ⟨by omega, by omega⟩ ?_
  refine wp_go rfl rfl ?_
  refine wp_go rfl rfl ?_
  refine wp_go rfl rfl ?_
  refine e_iadd rfl (by omega) ?_
  refine e_aldE (p := (i + 2)) rfl J0 rfl ⟨by omega, by omega⟩ ?_
  refine wp_cv rfl rfl rfl J71 rfl rfl rfl ?_
  refine wp_mono J ?_
  intro w2 h2 J2
  obtain ⟨rfl, J2⟩ := J2
  refine e_ceq rfl (fun c851 => ?_) (fun c851 => absurd rfl c851)
  exact k h2 J2
set_option maxRecDepth 100000 in
theorem z_image {d L i : Nat} {xs : Nat → Int} {h : hc_H} {Q : List hc_V → hc_H → Prop} (hi : i + 6 ≤ L) (hL : L ≤ 3072) (hx : ∀ j, -2147483648 ≤ xs j ∧ xs j ≤ 2147483647) (I : INV h L xs) (k : ∀ h2, RM L xs h h2 → hc_wp (d + 201) mL_law 905 [xR 0, xR 22, xR 71, xI (i : Int)] [] h2 Q) : hc_wp (d + 201) mL_law 856 [xR 0, xR 22, xR 71, xI (i : Int)] [] h Q := by
  obtain ⟨H0, n22, H22⟩ := I.p
  refine wp_go rfl rfl ?_
  refine wp_cv rfl rfl rfl H22 rfl rfl rfl ?_
  refine wp_mono (y_image I) ?_
  intro w1 h1 J
  obtain ⟨r, rfl, J0, ⟨s1, J71⟩, J⟩ := J
  refine wp_go rfl rfl ?_
  refine wp_cv rfl rfl rfl J71 rfl rfl rfl ?_
  refine wp_mono J ?_
  intro w2 h2 J2
  obtain ⟨rfl, J2⟩ := J2
  refine e_ceq rfl (fun c864 => ?_) (fun c864 => absurd rfl c864)
  exact k h2 J2
set_option maxRecDepth 100000 in
theorem z_back {d L i : Nat} {xs : Nat → Int} {h : hc_H} {Q : List hc_V → hc_H → Prop} (hi : i + 6 ≤ L) (hL : L ≤ 3072) (hx : ∀ j, -2147483648 ≤ xs j ∧ xs j ≤ 2147483647) (I : INV h L xs) (k : ∀ h2, RM L xs h h2 → hc_wp (d + 201) mL_law 905 [xR 0, xR 22, xR 71, xI (i : Int)] [] h2 Q) : hc_wp (d + 201) mL_law 869 [xR 0, xR 22, xR 71, xI (i : Int)] [] h Q := by
  obtain ⟨H0, n22, H22⟩ := I.p
  refine wp_go rfl rfl ?_
  refine wp_cv rfl rfl rfl H22 rfl rfl rfl ?_
  refine wp_mono (y_back I) ?_
  intro w1 h1 J
  obtain ⟨r, rfl, J0, ⟨s1, J71⟩, J⟩ := J
  refine wp_go rfl rfl ?_
  refine wp_cv rfl rfl rfl J71 rfl rfl rfl ?_
  refine wp_mono J ?_
  intro w2 h2 J2
  obtain ⟨rfl, J2⟩ := J2
  refine e_ceq rfl (fun c877 => ?_) (fun c877 => absurd rfl c877)
  exact k h2 J2
set_option maxRecDepth 100000 in
theorem z_about {d L i : Nat} {xs : Nat → Int} {h : hc_H} {Q : List hc_V → hc_H → Prop} (hi : i + 6 ≤ L) (hL : L ≤ 3072) (hx : ∀ j, -2147483648 ≤ xs j ∧ xs j ≤ 2147483647) (I : INV h L xs) (k : ∀ h2, RM L xs h h2 → hc_wp (d + 201) mL_law 905 [xR 0, xR 22, xR 71, xI (i : Int)] [] h2 Q) : hc_wp (d + 201) mL_law 882 [xR 0, xR 22, xR 71, xI (i : Int)] [] h Q := by
  obtain ⟨H0, n22, H22⟩ := I.p
  refine wp_go rfl rfl ?_
  refine wp_go rfl rfl ?_
  refine wp_go rfl rfl ?_
  refine wp_go rfl rfl ?_
  refine e_iadd rfl (by omega) ?_
  refine e_aldE (p := (i + 1)) rfl H0 rfl ⟨by omega, by omega⟩ ?_
  refine wp_cv rfl rfl rfl H22 rfl rfl rfl ?_
  refine wp_mono (y_about I (hx _)) ?_
  intro w1 h1 J
  obtain ⟨r, rfl, J0, ⟨s1, J71⟩, J⟩ := J
  refine wp_go rfl rfl ?_
  refine wp_go rfl rfl ?_
  refine wp_go rfl rfl ?_
  refine wp_go rfl rfl ?_
  refine e_iadd rfl (by omega) ?_
  refine e_aldE (p := (i + 1)) rfl J0 rfl ⟨by omega, by omega⟩ ?_
  refine wp_cv rfl rfl rfl J71 rfl rfl rfl ?_
  refine wp_mono J ?_
  intro w2 h2 J2
  obtain ⟨rfl, J2⟩ := J2
  refine e_ceq rfl (fun c900 => ?_) (fun c900 => absurd rfl c900)
  exact k h2 J2
