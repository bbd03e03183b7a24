/-! the reference: a clause played -/
def TR1 (T : Nat → Int) (x : Nat) (kd a b c g : Int) : Prop := T x = kd - 10 ∧ (10 ≤ kd ∧ kd ≤ 14) ∧ (kd = 12 → T (x + 1) = 100 * a + b ∧ T (x + 2) = 8 * c + g ∧ (1 ≤ a ∧ a ≤ 99) ∧ (1 ≤ b ∧ b ≤ 99) ∧ (0 ≤ c ∧ c ≤ 7) ∧ (0 ≤ g ∧ g ≤ 7)) ∧ (kd = 13 → T (x + 1) = a ∧ T (x + 2) = b ∧ (1 ≤ a ∧ a ≤ 9999) ∧ (0 ≤ b ∧ b ≤ 7)) ∧ (kd = 14 → T (x + 1) = a ∧ (1 ≤ a ∧ a ≤ 99))
set_option maxRecDepth 100000 in
theorem c_isp12 {d : Nat} {h : hc_H} {Q : List hc_V → hc_H → Prop} {x : Nat} {a b c g : Int} {ft fr : Option ef} {s A T : Nat → Int} {cs : cT} {e : dX} (hs : cOK cs) (H : RA A cs e) (H71 : h.2.2 71 = mo s) (H72 : h.2.2 72 = ar 456 A) (H74 : h.2.2 74 = ar 2720 T) (hN : MVN h) (hT : MTX T cs.ru ft fr) (hx : x + 2 < 2720) (hk : T x = 2) (h1 : T (x + 1) = 100 * a + b) (h2 : T (x + 2) = 8 * c + g) (ha : 1 ≤ a ∧ a ≤ 99) (hb : 1 ≤ b ∧ b ≤ 99) (hc : 0 ≤ c ∧ c ≤ 7) (hg : 0 ≤ g ∧ g ≤ 7) (kn : clS ft fr cs 12 a b c g = none → Q [xI 0] h) (ks : ∀ s2, clS ft fr cs 12 a b c g = some s2 → ∀ h2 A2, h2.2.2 72 = ar 456 A2 → RA A2 s2 e → MVN h2 → Fr [72, 77, 78, 79] h h2 → Q [xI 1] h2) : hc_wp (d + 8) mX10_isPlayed 0 [xR 71, xI (x : Int), none, none] [] h Q := by
  refine wp_go rfl rfl ?_
  refine e_get rfl H71 rfl rfl ?_
  refine wp_go rfl rfl ?_
  refine wp_go rfl rfl ?_
  refine e_iadd rfl (by omega) ?_
  refine e_aldE (p := x + 1) rfl H74 rfl ⟨by omega, by omega⟩ ?_
  rw [h1]
  refine e_istn (L' := [xR 71, xI (x : Int), xI (100 * a + b), none]) rfl rfl rfl ?_
  refine wp_go rfl rfl ?_
  refine e_get rfl H71 rfl rfl ?_
  refine wp_go rfl rfl ?_
  refine wp_go rfl rfl ?_
  refine e_iadd rfl (by omega) ?_
  refine e_aldE (p := x + 2) rfl H74 rfl ⟨by omega, by omega⟩ ?_
  rw [h2]
  refine e_istn (L' := [xR 71, xI (x : Int), xI (100 * a + b), xI (8 * c + g)]) rfl rfl rfl ?_
  refine wp_go rfl rfl ?_
  refine e_get rfl H71 rfl rfl ?_
  refine wp_go rfl rfl ?_
  refine e_aldE (p := x) rfl H74 rfl ⟨by omega, by omega⟩ ?_
  rw [hk]
  refine wp_go rfl rfl ?_
  refine wp_go rfl rfl ?_
  refine wp_go rfl rfl ?_
  refine wp_go rfl rfl ?_
  refine e_idiv rfl (by omega) (by rw [Int.tdiv_eq_ediv_of_nonneg (by omega)]; omega) ?_
  rw [show Int.tdiv (8 * c + g) 8 = c by rw [Int.tdiv_eq_ediv_of_nonneg (by omega)]; omega]
  refine wp_go rfl rfl ?_
  refine wp_go rfl rfl ?_
  refine e_irem rfl (by omega) ?_
  rw [show Int.tmod (8 * c + g) 8 = g by rw [Int.tmod_eq_emod_of_nonneg (by omega)]; omega]
  refine wp_go rfl rfl ?_
  refine wp_go rfl rfl ?_
  refine e_idiv rfl (by omega) (by rw [Int.tdiv_eq_ediv_of_nonneg (by omega)]; omega) ?_
  rw [show Int.tdiv (100 * a + b) 100 = a by rw [Int.tdiv_eq_ediv_of_nonneg (by omega)]; omega]
  refine wp_go rfl rfl ?_
  refine wp_go rfl rfl ?_
  refine e_irem rfl (by omega) ?_
  rw [show Int.tmod (100 * a + b) 100 = b by rw [Int.tmod_eq_emod_of_nonneg (by omega)]; omega]
  refine wp_cv rfl rfl rfl H71 rfl rfl rfl ?_
  refine c_mpay (d := d + 1) hs H H71 H72 H74 hN hT (fun hno => ?_) (fun z1 z2 z3 z4 pd tl hpd htl h2 A2 B72 RA2 N2 F2 => ?_)
  · skip
    refine wp_go rfl rfl ?_
    refine wp_go rfl rfl ?_
    refine wp_ret rfl rfl ?_
    exact kn (cl_12.trans (if_neg hno))
  · skip
    have hpe : pd = pdS cs a b c := hpd
    have hte : tl = tlS ft cs a b c := by rw [htl, hpe]; rfl
    have hp0 := (pd_bd hs z1 ⟨z4.1, z4.2.1⟩).1
    rw [← hpe] at hp0
    refine e_iflt rfl (fun c72 => absurd c72 (by omega)) (fun c72 => ?_)
    refine wp_go rfl rfl ?_
    refine wp_go rfl rfl ?_
    refine wp_ret rfl rfl ?_
    rw [hpe, hte] at RA2
    exact ks _ (cl_12.trans (if_pos ⟨z1, z2, z3, z4.1, z4.2.1, z4.2.2⟩)) h2 A2 B72 RA2 N2 F2
set_option maxRecDepth 100000 in
theorem c_isp13 {d : Nat} {h : hc_H} {Q : List hc_V → hc_H → Prop} {x : Nat} {a b c g : Int} {ft fr : Option ef} {s A T : Nat → Int} {cs : cT} {e : dX} (hs : cOK cs) (H : RA A cs e) (H71 : h.2.2 71 = mo s) (H72 : h.2.2 72 = ar 456 A) (H74 : h.2.2 74 = ar 2720 T) (hN : MVN h) (hT : MTX T cs.ru ft fr) (hx : x + 2 < 2720) (hk : T x = 3) (h1 : T (x + 1) = a) (h2 : T (x + 2) = b) (kn : clS ft fr cs 13 a b c g = none → Q [xI 0] h) (ks : ∀ s2, clS ft fr cs 13 a b c g = some s2 → ∀ h2 A2, h2.2.2 72 = ar 456 A2 → RA A2 s2 e → MVN h2 → Fr [72, 77, 78, 79] h h2 → Q [xI 1] h2) : hc_wp (d + 8) mX10_isPlayed 0 [xR 71, xI (x : Int), none, none] [] h Q := by
  refine wp_go rfl rfl ?_
  refine e_get rfl H71 rfl rfl ?_
  refine wp_go rfl rfl ?_
  refine wp_go rfl rfl ?_
  refine e_iadd rfl (by omega) ?_
  refine e_aldE (p := x + 1) rfl H74 rfl ⟨by omega, by omega⟩ ?_
  rw [h1]
  refine e_istn (L' := [xR 71, xI (x : Int), xI a, none]) rfl rfl rfl ?_
  refine wp_go rfl rfl ?_
  refine e_get rfl H71 rfl rfl ?_
  refine wp_go rfl rfl ?_
  refine wp_go rfl rfl ?_
  refine e_iadd rfl (by omega) ?_
  refine e_aldE (p := x + 2) rfl H74 rfl ⟨by omega, by omega⟩ ?_
  rw [h2]
  refine e_istn (L' := [xR 71, xI (x : Int), xI a, xI b]) rfl rfl rfl ?_
  refine wp_go rfl rfl ?_
  refine e_get rfl H71 rfl rfl ?_
  refine wp_go rfl rfl ?_
  refine e_aldE (p := x) rfl H74 rfl ⟨by omega, by omega⟩ ?_
  rw [hk]
  refine wp_go rfl rfl ?_
  refine wp_go rfl rfl ?_
  refine wp_go rfl rfl ?_
  refine wp_go rfl rfl ?_
  refine wp_cv rfl rfl rfl H71 rfl rfl rfl ?_
  refine c_mgrant (d := d + 5) hs H H71 H72 (fun hno => ?_) (fun z1 z2 z3 z4 h2 A2 B72 RA2 F2 => ?_)
  · skip
    refine wp_go rfl rfl ?_
    refine wp_go rfl rfl ?_
    refine wp_ret rfl rfl ?_
    exact kn (cl_13.trans (if_neg hno))
  · skip
    have hbx := smk_nf (hs.kep z4)
    have hbx2 : smk (hc_u cs.mk (Int.toNat b) (cs.mk (Int.toNat b) + a)) cs.nf ≤ 720720 := hbx.2
    refine e_iflt rfl (fun c87 => absurd c87 (by omega)) (fun c87 => ?_)
    refine wp_go rfl rfl ?_
    refine wp_go rfl rfl ?_
    refine wp_ret rfl rfl ?_
    exact ks _ (cl_13.trans (if_pos ⟨z1, z2, z3⟩)) h2 A2 B72 RA2 (hN.fr F2 rfl) (Fr.mono F2 (nin_sub rfl))
set_option maxRecDepth 100000 in
theorem c_isp14 {d : Nat} {h : hc_H} {Q : List hc_V → hc_H → Prop} {x : Nat} {a b c g : Int} {ft fr : Option ef} {s A T : Nat → Int} {cs : cT} {e : dX} (hs : cOK cs) (H : RA A cs e) (H71 : h.2.2 71 = mo s) (H72 : h.2.2 72 = ar 456 A) (H74 : h.2.2 74 = ar 2720 T) (hN : MVN h) (hT : MTX T cs.ru ft fr) (hx : x + 2 < 2720) (hk : T x = 4) (h1 : T (x + 1) = a) (kn : clS ft fr cs 14 a b c g = none → Q [xI 0] h) (ks : ∀ s2, clS ft fr cs 14 a b c g = some s2 → ∀ h2 A2, h2.2.2 72 = ar 456 A2 → RA A2 s2 e → MVN h2 → Fr [72, 77, 78, 79] h h2 → Q [xI 1] h2) : hc_wp (d + 8) mX10_isPlayed 0 [xR 71, xI (x : Int), none, none] [] h Q := by
  refine wp_go rfl rfl ?_
  refine e_get rfl H71 rfl rfl ?_
  refine wp_go rfl rfl ?_
  refine wp_go rfl rfl ?_
  refine e_iadd rfl (by omega) ?_
  refine e_aldE (p := x + 1) rfl H74 rfl ⟨by omega, by omega⟩ ?_
  rw [h1]
  refine e_istn (L' := [xR 71, xI (x : Int), xI a, none]) rfl rfl rfl ?_
  refine wp_go rfl rfl ?_
  refine e_get rfl H71 rfl rfl ?_
  refine wp_go rfl rfl ?_
  refine wp_go rfl rfl ?_
  refine e_iadd rfl (by omega) ?_
  refine e_aldE (p := x + 2) rfl H74 rfl ⟨by omega, by omega⟩ ?_
  refine e_istn (L' := [xR 71, xI (x : Int), xI a, xI (T (x + 2))]) rfl rfl rfl ?_
  refine wp_go rfl rfl ?_
  refine e_get rfl H71 rfl rfl ?_
  refine wp_go rfl rfl ?_
  refine e_aldE (p := x) rfl H74 rfl ⟨by omega, by omega⟩ ?_
  rw [hk]
  refine wp_go rfl rfl ?_
  refine wp_go rfl rfl ?_
  refine wp_go rfl rfl ?_
  refine wp_cv rfl rfl rfl H71 rfl rfl rfl ?_
  refine c_mpass (d := d) hs H71 H72 H74 hN hT H (fun hno => ?_) (fun z1 z2 z3 h2 A2 B72 RA2 N2 F2 => ?_)
  · skip
    refine wp_go rfl rfl ?_
    refine wp_go rfl rfl ?_
    refine wp_ret rfl rfl ?_
    exact kn (cl_14.trans (if_neg (by omega)))
  · skip
    have hle := dys_le (fr := fr) hs (Int.toNat a) (by omega)
    refine e_iflt rfl (fun c101 => absurd c101 (by omega)) (fun c101 => ?_)
    refine wp_go rfl rfl ?_
    refine wp_go rfl rfl ?_
    refine wp_ret rfl rfl ?_
    exact ks _ (cl_14.trans (if_pos ⟨z1, z2, z3⟩)) h2 A2 B72 RA2 N2 F2
set_option maxRecDepth 100000 in
theorem c_isp10 {d : Nat} {h : hc_H} {Q : List hc_V → hc_H → Prop} {x : Nat} {a b c g : Int} {ft fr : Option ef} {s A T : Nat → Int} {cs : cT} {e : dX} (hs : cOK cs) (H : RA A cs e) (H71 : h.2.2 71 = mo s) (H72 : h.2.2 72 = ar 456 A) (H74 : h.2.2 74 = ar 2720 T) (hN : MVN h) (hT : MTX T cs.ru ft fr) (hx : x + 2 < 2720) (hk : T x = 0) (kn : clS ft fr cs 10 a b c g = none → Q [xI 0] h) (ks : ∀ s2, clS ft fr cs 10 a b c g = some s2 → ∀ h2 A2, h2.2.2 72 = ar 456 A2 → RA A2 s2 e → MVN h2 → Fr [72, 77, 78, 79] h h2 → Q [xI 1] h2) : hc_wp (d + 8) mX10_isPlayed 0 [xR 71, xI (x : Int), none, none] [] h Q := by
  refine wp_go rfl rfl ?_
  refine e_get rfl H71 rfl rfl ?_
  refine wp_go rfl rfl ?_
  refine wp_go rfl rfl ?_
  refine e_iadd rfl (by omega) ?_
  refine e_aldE (p := x + 1) rfl H74 rfl ⟨by omega, by omega⟩ ?_
  refine e_istn (L' := [xR 71, xI (x : Int), xI (T (x + 1)), none]) rfl rfl rfl ?_
  refine wp_go rfl rfl ?_
  refine e_get rfl H71 rfl rfl ?_
  refine wp_go rfl rfl ?_
  refine wp_go rfl rfl ?_
  refine e_iadd rfl (by omega) ?_
  refine e_aldE (p := x + 2) rfl H74 rfl ⟨by omega, by omega⟩ ?_
  refine e_istn (L' := [xR 71, xI (x : Int), xI (T (x + 1)), xI (T (x + 2))]) rfl rfl rfl ?_
  refine wp_go rfl rfl ?_
  refine e_get rfl H71 rfl rfl ?_
  refine wp_go rfl rfl ?_
  refine e_aldE (p := x) rfl H74 rfl ⟨by omega, by omega⟩ ?_
  rw [hk]
  refine wp_go rfl rfl ?_
  refine wp_go rfl rfl ?_
  refine wp_ret rfl rfl ?_
  exact ks _ (cl_lo (by decide)) h A H72 H hN Fr.rf
set_option maxRecDepth 100000 in
theorem c_isp11 {d : Nat} {h : hc_H} {Q : List hc_V → hc_H → Prop} {x : Nat} {a b c g : Int} {ft fr : Option ef} {s A T : Nat → Int} {cs : cT} {e : dX} (hs : cOK cs) (H : RA A cs e) (H71 : h.2.2 71 = mo s) (H72 : h.2.2 72 = ar 456 A) (H74 : h.2.2 74 = ar 2720 T) (hN : MVN h) (hT : MTX T cs.ru ft fr) (hx : x + 2 < 2720) (hk : T x = 1) (kn : clS ft fr cs 11 a b c g = none → Q [xI 0] h) (ks : ∀ s2, clS ft fr cs 11 a b c g = some s2 → ∀ h2 A2, h2.2.2 72 = ar 456 A2 → RA A2 s2 e → MVN h2 → Fr [72, 77, 78, 79] h h2 → Q [xI 1] h2) : hc_wp (d + 8) mX10_isPlayed 0 [xR 71, xI (x : Int), none, none] [] h Q := by
  refine wp_go rfl rfl ?_
  refine e_get rfl H71 rfl rfl ?_
  refine wp_go rfl rfl ?_
  refine wp_go rfl rfl ?_
  refine e_iadd rfl (by omega) ?_
  refine e_aldE (p := x + 1) rfl H74 rfl ⟨by omega, by omega⟩ ?_
  refine e_istn (L' := [xR 71, xI (x : Int), xI (T (x + 1)), none]) rfl rfl rfl ?_
  refine wp_go rfl rfl ?_
  refine e_get rfl H71 rfl rfl ?_
  refine wp_go rfl rfl ?_
  refine wp_go rfl rfl ?_
  refine e_iadd rfl (by omega) ?_
  refine e_aldE (p := x + 2) rfl H74 rfl ⟨by omega, by omega⟩ ?_
  refine e_istn (L' := [xR 71, xI (x : Int), xI (T (x + 1)), xI (T (x + 2))]) rfl rfl rfl ?_
  refine wp_go rfl rfl ?_
  refine e_get rfl H71 rfl rfl ?_
  refine wp_go rfl rfl ?_
  refine e_aldE (p := x) rfl H74 rfl ⟨by omega, by omega⟩ ?_
  rw [hk]
  refine wp_go rfl rfl ?_
  refine wp_go rfl rfl ?_
  refine wp_ret rfl rfl ?_
  exact ks _ (cl_lo (by decide)) h A H72 H hN Fr.rf
theorem c_isp {kd : Int} {x : Nat} {a b c g : Int} {ft fr : Option ef} {s A T : Nat → Int} {cs : cT} {e : dX} {d : Nat} {h : hc_H} {Q : List hc_V → hc_H → Prop} (hs : cOK cs) (H : RA A cs e) (H71 : h.2.2 71 = mo s) (H72 : h.2.2 72 = ar 456 A) (H74 : h.2.2 74 = ar 2720 T) (hN : MVN h) (hT : MTX T cs.ru ft fr) (hx : x + 2 < 2720) (hR : TR1 T x kd a b c g) (kn : clS ft fr cs kd a b c g = none → Q [xI 0] h) (ks : ∀ s2, clS ft fr cs kd a b c g = some s2 → ∀ h2 A2, h2.2.2 72 = ar 456 A2 → RA A2 s2 e → MVN h2 → Fr [72, 77, 78, 79] h h2 → Q [xI 1] h2) : hc_wp (d + 8) mX10_isPlayed 0 [xR 71, xI (x : Int), none, none] [] h Q := by
  obtain ⟨r1, r2, r3, r4, r5⟩ := hR
  have h5 : kd = 10 ∨ kd = 11 ∨ kd = 12 ∨ kd = 13 ∨ kd = 14 := by omega
  rcases h5 with z | z | z | z | z
  · subst z
    exact c_isp10 hs H H71 H72 H74 hN hT hx (by omega) kn ks
  · subst z
    exact c_isp11 hs H H71 H72 H74 hN hT hx (by omega) kn ks
  · subst z
    obtain ⟨q1, q2, q3, q4, q5, q6⟩ := r3 rfl
    exact c_isp12 hs H H71 H72 H74 hN hT hx (by omega) q1 q2 q3 q4 q5 q6 kn ks
  · subst z
    obtain ⟨q1, q2, q3, q4⟩ := r4 rfl
    exact c_isp13 hs H H71 H72 H74 hN hT hx (by omega) q1 q2 kn ks
  · subst z
    obtain ⟨q1, q2⟩ := r5 rfl
    exact c_isp14 hs H H71 H72 H74 hN hT hx (by omega) q1 kn ks
