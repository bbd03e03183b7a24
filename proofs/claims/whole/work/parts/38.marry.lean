/-! the class: Marrying, first part: the lower numbers -/
abbrev mar (tg : Int) : hc_E := .inr (1, [xR 66, xR 67, xR 68, xR 69, xI tg])
def lw1 (mk : Nat → Int) (a b : Nat) : Int := ((lwn (Int.toNat (if a = b then mk a else mk a + mk b)) : Nat) : Int)
def LB (lw : Nat → Int) : Prop := ∀ j, j < 64 → 0 ≤ lw j ∧ lw j ≤ 720720
def LW (lw mk : Nat → Int) (al n : Nat) : Prop := ∀ a b, a < n → a ≤ b → b < al → lw (a * 8 + b) = lw1 mk a b
theorem lwn_bd (n : Nat) : lwn n ≤ 720720 := Nat.div_le_self _ _
theorem LB.u {lw : Nat → Int} {i n : Nat} (H : LB lw) : LB (hc_u lw i ((lwn n : Nat) : Int)) := by
  intro j hj
  have a := H j hj
  have b := lwn_bd n
  unfold hc_u
  split <;> omega
theorem smk_pair {mk : Nat → Int} {a b : Nat} : ∀ n : Nat, (∀ j, j < n → 0 ≤ mk j) → a < b → b < n → mk a + mk b ≤ smk mk n := by
  intro n
  induction n with
  | zero => intro _ _ h; exact absurd h (by omega)
  | succ n ih =>
    intro h hab hb
    have c := h n (by omega)
    simp only [smk]
    by_cases e : b = n
    · subst e
      have := (smk_ge b (fun j hj => h j (by omega))).2 a hab
      omega
    · have := ih (fun j hj => h j (by omega)) hab (by omega)
      omega
set_option maxRecDepth 100000 in
theorem l_fl1 {d : Nat} {h0 : hc_H} {Q : List hc_V → hc_H → Prop} {al a : Nat} {i tg : Int} {mk : Nat → Int} {nf : Nat} (hal : al ≤ 8) (hM : MK nf mk) (hi : i = (a : Int)) (ha : a < al) (k : ∀ h2 lw2 j2, h2.2.2 65 = mar tg → h2.2.2 66 = ar 64 lw2 → h2.2.2 27 = ar 8 mk → LB lw2 → LW lw2 mk al a → (∀ q, a ≤ q → q < al → lw2 (a * 8 + q) = lw1 mk a q) → Fr [66] h0 h2 → hc_wp (d + 2) mX1_findLowers 77 [xR 65, xR 27, xI (al : Int), xI i, xI j2] [] h2 Q) : ∀ (n b : Nat) (j : Int) (h : hc_H) (lw : Nat → Int), j = (b : Int) → a < b → (b ≤ al ∧ al < b + n) → h.2.2 65 = mar tg → h.2.2 66 = ar 64 lw → h.2.2 27 = ar 8 mk → LB lw → LW lw mk al a → (∀ q, a ≤ q → q < b → lw (a * 8 + q) = lw1 mk a q) → Fr [66] h0 h → True → hc_wp (d + 2) mX1_findLowers 35 [xR 65, xR 27, xI (al : Int), xI i, xI j] [] h Q := by
  intro n
  induction n with
  | zero =>
    intro b j h lw e hb hn
    exact absurd hn (by omega)
  | succ n ih =>
    intro b j h lw e hb hn H65 H66 H27 HL HA HR HF hn2
    refine wp_go rfl rfl ?_
    refine wp_go rfl rfl ?_
    refine e_cge rfl (fun c38 => ?_) (fun c38 => ?_)
    · skip
      exact k h lw j H65 H66 H27 HL HA (fun q h1 h2 => HR q h1 (by omega)) HF
    · skip
      refine wp_go rfl rfl ?_
      refine wp_go rfl rfl ?_
      refine e_alen rfl H27 rfl (by decide) ?_
      refine e_cge rfl (fun c45 => absurd c45 (by omega)) (fun c45 => ?_)
      refine wp_go rfl rfl ?_
      refine e_get rfl H65 rfl rfl ?_
      refine wp_go rfl rfl ?_
      refine wp_go rfl rfl ?_
      refine e_imul rfl (by omega) ?_
      refine wp_go rfl rfl ?_
      refine e_iadd rfl (by omega) ?_
      have hmi := hM.1 (Int.toNat i) (by omega)
      have hmj := hM.1 (Int.toNat j) (by omega)
      refine wp_go rfl rfl ?_
      refine wp_go rfl rfl ?_
      refine e_ald rfl H27 rfl (by omega) ?_
      refine wp_go rfl rfl ?_
      refine wp_go rfl rfl ?_
      refine e_ald rfl H27 rfl (by omega) ?_
      refine e_iadd rfl (by omega) ?_
      refine wp_call rfl rfl rfl rfl ?_
      have hpr := smk_pair (a := a) (b := b) 8 (fun p hp => (hM.1 p hp).1) (by omega) (by omega)
      have hma := hM.1 a (by omega)
      have hmb := hM.1 b (by omega)
      have hM3 := hM.2.2
      have ev : mk (Int.toNat i) + mk (Int.toNat j) = ((Int.toNat (mk a + mk b) : Nat) : Int) := by
        rw [show Int.toNat i = a by omega, show Int.toNat j = b by omega]
        omega
      rw [ev]
      refine c_lowerNumber (by omega) ?_
      refine e_iast rfl H66 (by omega) ?_
      refine e_inc (L' := [xR 65, xR 27, xI (al : Int), xI i, xI (j + 1)]) rfl rfl (by omega) rfl ?_
      refine wp_go rfl rfl ?_
      have ei : Int.toNat (i * 8 + j) = a * 8 + b := by omega
      rw [ei]
      refine ih (b + 1) _ _ _ (by omega) (by omega) (by omega) H65 rfl H27 (HL.u) (fun p q hp hq1 hq2 => ?_) (fun q hq1 hq2 => ?_) (HF.wr rfl) trivial
      · show hc_u lw (a * 8 + b) _ (p * 8 + q) = _
        unfold hc_u
        rw [if_neg (by omega)]
        exact HA p q hp hq1 hq2
      · show hc_u lw (a * 8 + b) _ (a * 8 + q) = _
        unfold hc_u
        by_cases c : q = b
        · rw [if_pos (by omega), c]
          unfold lw1
          rw [if_neg (by omega)]
        · rw [if_neg (by omega)]
          exact HR q hq1 (by omega)
set_option maxRecDepth 100000 in
theorem l_fl2 {d : Nat} {h0 : hc_H} {Q : List hc_V → hc_H → Prop} {al : Nat} {tg : Int} {mk : Nat → Int} {nf : Nat} (hal : al ≤ 8) (hM : MK nf mk) (k : ∀ h2 lw2, h2.2.2 65 = mar tg → h2.2.2 66 = ar 64 lw2 → h2.2.2 27 = ar 8 mk → LB lw2 → LW lw2 mk al al → Fr [66] h0 h2 → Q [] h2) : ∀ (n a : Nat) (i : Int) (l4 : hc_V) (h : hc_H) (lw : Nat → Int), i = (a : Int) → (a ≤ al ∧ al < a + n) → h.2.2 65 = mar tg → h.2.2 66 = ar 64 lw → h.2.2 27 = ar 8 mk → LB lw → LW lw mk al a → Fr [66] h0 h → True → hc_wp (d + 2) mX1_findLowers 2 [xR 65, xR 27, xI (al : Int), xI i, l4] [] h Q := by
  intro n
  induction n with
  | zero =>
    intro a i l4 h lw e hn
    exact absurd hn (by omega)
  | succ n ih =>
    intro a i l4 h lw e hn H65 H66 H27 HL HA HF hn2
    refine wp_go rfl rfl ?_
    refine wp_go rfl rfl ?_
    refine e_cge rfl (fun c4 => ?_) (fun c4 => ?_)
    · skip
      refine wp_ret rfl rfl ?_
      rw [show a = al by omega] at HA
      exact k h lw H65 H66 H27 HL HA HF
    · skip
      refine wp_go rfl rfl ?_
      refine wp_go rfl rfl ?_
      refine e_alen rfl H27 rfl (by decide) ?_
      refine e_cge rfl (fun c10 => absurd c10 (by omega)) (fun c10 => ?_)
      refine wp_go rfl rfl ?_
      refine e_get rfl H65 rfl rfl ?_
      refine wp_go rfl rfl ?_
      refine wp_go rfl rfl ?_
      refine e_imul rfl (by omega) ?_
      refine wp_go rfl rfl ?_
      refine e_iadd rfl (by omega) ?_
      refine wp_go rfl rfl ?_
      refine wp_go rfl rfl ?_
      refine e_ald rfl H27 rfl (by omega) ?_
      refine wp_call rfl rfl rfl rfl ?_
      have hma := hM.1 a (by omega)
      have ev : mk (Int.toNat i) = ((Int.toNat (mk a) : Nat) : Int) := by
        rw [show Int.toNat i = a by omega]
        omega
      rw [ev]
      refine c_lowerNumber (by omega) ?_
      refine e_iast rfl H66 (by omega) ?_
      refine wp_go rfl rfl ?_
      refine wp_go rfl rfl ?_
      refine e_iadd rfl (by omega) ?_
      refine e_ist (L' := [xR 65, xR 27, xI (al : Int), xI i, xI (i + 1)]) rfl rfl rfl ?_
      have ei : Int.toNat (i * 8 + i) = a * 8 + a := by omega
      rw [ei]
      refine l_fl1 (a := a) hal hM e (by omega) (fun h2 lw2 j2 A1 A2 A3 A4 A5 A6 F2 => ?_) (al + 1) (a + 1) _ _ _ (by omega) (by omega) (by omega) H65 rfl H27 HL.u (fun p q hp hq1 hq2 => ?_) (fun q hq1 hq2 => ?_) Fr.rf trivial
      rotate_left
      · show hc_u lw (a * 8 + a) _ (p * 8 + q) = _
        unfold hc_u
        rw [if_neg (by omega)]
        exact HA p q hp hq1 hq2
      · rw [show q = a by omega]
        show hc_u lw (a * 8 + a) _ (a * 8 + a) = _
        unfold hc_u lw1
        rw [if_pos rfl, if_pos rfl]
      refine e_inc (L' := [xR 65, xR 27, xI (al : Int), xI (i + 1), xI j2]) rfl rfl (by omega) rfl ?_
      refine wp_go rfl rfl ?_
      refine ih (a + 1) _ _ h2 lw2 (by omega) (by omega) A1 A2 A3 A4 (fun p q hp hq1 hq2 => ?_) (HF.tr (Fr.tr (Fr.rf.wr rfl) F2 (fun _ z => z)) (fun _ z => z)) trivial
      by_cases c : p = a
      · rw [c]
        exact A6 q (by omega) hq2
      · exact A5 p q (by omega) hq1 hq2
set_option maxRecDepth 100000 in
theorem c_findLowers {d : Nat} {h : hc_H} {Q : List hc_V → hc_H → Prop} {al : Nat} {tg : Int} {mk lw : Nat → Int} {nf : Nat} (hal : al ≤ 8) (hM : MK nf mk) (H65 : h.2.2 65 = mar tg) (H66 : h.2.2 66 = ar 64 lw) (H27 : h.2.2 27 = ar 8 mk) (HL : LB lw) (k : ∀ h2 lw2, h2.2.2 65 = mar tg → h2.2.2 66 = ar 64 lw2 → h2.2.2 27 = ar 8 mk → LB lw2 → LW lw2 mk al al → Fr [66] h h2 → Q [] h2) : hc_wp (d + 2) mX1_findLowers 0 [xR 65, xR 27, xI (al : Int), none, none] [] h Q := by
  refine wp_go rfl rfl ?_
  refine e_istn (L' := [xR 65, xR 27, xI (al : Int), xI 0, none]) rfl rfl rfl ?_
  exact l_fl2 hal hM k (al + 1) 0 _ _ h lw rfl (by omega) H65 H66 H27 HL (fun a b h1 => absurd h1 (by omega)) Fr.rf trivial
