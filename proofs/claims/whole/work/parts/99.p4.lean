/-! the reference: marrying, whole -/
theorem mst_val {lw ls : Nat → Int} {rest one : Nat} {v0 : Int} : ∀ n : Nat, (mst lw ls rest one v0 n).1 = -1 ∨ ∃ m, one < m ∧ m < n ∧ Nat.testBit rest m = true ∧ mst lw ls rest one v0 n = ((m : Int), lw (one * 8 + m) + ls (clr rest m))
  | 0 => Or.inl rfl
  | n + 1 => by
    rw [mst]
    have ih : (mst lw ls rest one v0 n).1 = -1 ∨ ∃ m, one < m ∧ m < n + 1 ∧ Nat.testBit rest m = true ∧ mst lw ls rest one v0 n = ((m : Int), lw (one * 8 + m) + ls (clr rest m)) := by
      cases mst_val (lw := lw) (ls := ls) (rest := rest) (one := one) (v0 := v0) n with
      | inl y => exact Or.inl y
      | inr y =>
        obtain ⟨m, a, b, c, e⟩ := y
        exact Or.inr ⟨m, a, by omega, c, e⟩
    by_cases c : one < n ∧ Nat.testBit rest n = true
    · rw [if_pos c]
      split
      · exact Or.inr ⟨n, c.1, by omega, c.2, rfl⟩
      · exact ih
    · rw [if_neg c]
      exact ih
theorem mfv_fnd {lw ls : Nat → Int} {v0 : Int} {s al : Nat} (hs : 1 ≤ s ∧ s < 256) (hal : al ≤ 8) (h : s < 2 ^ al) : (mfv lw ls v0 s al).1 ≠ -1 := by
  have h1 := mfn_found (lw := lw) (ls := hc_u ls s v0) hs h
  have h2 : mfn lw (hc_u ls s v0) s al = mfv lw (hc_u ls s v0) v0 s al := by
    unfold mfn mfv
    rw [hu_s]
  rw [h2, mfv_cg hs.1 hs.2 hal (fun t ht => hu_n (by omega))] at h1
  exact h1
theorem mfv_val {lw ls : Nat → Int} {v0 : Int} {s al : Nat} (hs : 1 ≤ s ∧ s < 256) (hal : al ≤ 8) (h : s < 2 ^ al) : ∃ m r : Nat, tz s ≤ m ∧ m < al ∧ r < s ∧ mfv lw ls v0 s al = ((m : Int), lw (tz s * 8 + m) + ls r) := by
  have hz := tz_at hs.1 hs.2
  have hf := mfv_fnd (lw := lw) (ls := ls) (v0 := v0) hs hal h
  have hl := (clr_lt hs.2 hz.1).2.1 hz.2
  have hzn := bit_nf h hz.2
  unfold mfv at hf ⊢
  by_cases c : pcn s % 2 = 1 ∧ ((mst lw ls (clr s (tz s)) (tz s) v0 al).1 = -1 ∨ lw (tz s * 8 + tz s) + ls (clr s (tz s)) < (mst lw ls (clr s (tz s)) (tz s) v0 al).2)
  · rw [if_pos c]
    exact ⟨tz s, clr s (tz s), Nat.le_refl _, hzn, hl, rfl⟩
  · rw [if_neg c] at hf ⊢
    cases mst_val (lw := lw) (ls := ls) (rest := clr s (tz s)) (one := tz s) (v0 := v0) al with
    | inl y => exact absurd y hf
    | inr y =>
      obtain ⟨m, a, b, c2, e⟩ := y
      have := (clr_lt (show clr s (tz s) < 256 by omega) (show m < 8 by omega)).1
      exact ⟨m, clr (clr s (tz s)) m, by omega, b, by omega, e⟩
theorem MSQ.ch {lw ls ch : Nat → Int} {nf ev : Nat} (H : MSQ lw ls ch nf ev) (hn : nf ≤ 8) (hev : ev + 1 = 2 ^ nf) : ∀ t, 1 ≤ t → t ≤ ev → 0 ≤ ch t ∧ ch t < 8 := by
  intro t h1 h2
  have h28 : 2 ^ nf ≤ 256 := Nat.pow_le_pow_right (n := 2) (by decide) hn
  obtain ⟨v0, hv⟩ := H.2 t h1 h2
  obtain ⟨m, r, a, b, c, e⟩ := mfv_val (lw := lw) (ls := ls) (v0 := v0) (s := t) (al := nf) ⟨h1, by omega⟩ hn (by omega)
  rw [e] at hv
  have : ch t = (m : Int) := congrArg Prod.fst hv
  omega
theorem MSQ.bd {lw ls ch : Nat → Int} {nf ev : Nat} (H : MSQ lw ls ch nf ev) (hn : nf ≤ 8) (hev : ev + 1 = 2 ^ nf) (hl : ∀ a b, a ≤ b → b < nf → 0 ≤ lw (a * 8 + b) ∧ lw (a * 8 + b) ≤ 720720) : ∀ (g t : Nat), t < g → t ≤ ev → 0 ≤ ls t ∧ ls t ≤ 720720 * (t : Int)
  | 0, t, h, _ => absurd h (by omega)
  | g + 1, t, h, h2 => by
    by_cases z : t = 0
    · rw [z, H.1]
      omega
    · have h28 : 2 ^ nf ≤ 256 := Nat.pow_le_pow_right (n := 2) (by decide) hn
      obtain ⟨v0, hv⟩ := H.2 t (by omega) h2
      obtain ⟨m, r, a, b, c, e⟩ := mfv_val (lw := lw) (ls := ls) (v0 := v0) (s := t) (al := nf) ⟨by omega, by omega⟩ hn (by omega)
      rw [e] at hv
      have e2 : ls t = lw (tz t * 8 + m) + ls r := congrArg Prod.snd hv
      have ih := MSQ.bd H hn hev hl g r (by omega) (by omega)
      have := hl (tz t) m a b
      omega
theorem pit_ind {ch pt pu : Nat → Int} {R ev : Nat} (hev : ev < 256) (hR : R ≤ ev) (hch : ∀ t, 1 ≤ t → t ≤ ev → 0 ≤ ch t ∧ ch t < 8) : ∀ n : Nat, n ≤ 8 → (pit ch R pt n).1 = (pit ch R pu n).1 ∧ (pit ch R pt n).1 ≤ ev ∧ (∀ k, k < n → Nat.testBit (pit ch R pt n).1 k = false) ∧ ∀ k, k < 8 → Nat.testBit R k = true → Nat.testBit (pit ch R pt n).1 k = false → (pit ch R pt n).2 k = (pit ch R pu n).2 k
  | 0, _ => ⟨rfl, hR, fun k hk => absurd hk (by omega), fun k _ h1 h2 => by rw [show (pit ch R pt 0).1 = R from rfl, h1] at h2; exact nomatch h2⟩
  | n + 1, hn => by
    obtain ⟨i1, i2, i3, i4⟩ := pit_ind (pt := pt) (pu := pu) hev hR hch n (by omega)
    rw [pit, pit, pst, pst, ← i1]
    by_cases c : Nat.testBit (pit ch R pt n).1 n = true
    · rw [if_pos c, if_pos c]
      have hc := hch _ (bit_pos c) i2
      have h8 : Int.toNat (ch (pit ch R pt n).1) < 8 := by omega
      have hl1 := (clr_lt (show (pit ch R pt n).1 < 256 by omega) h8).1
      have hl2 := (clr_lt (show clr (pit ch R pt n).1 (Int.toNat (ch (pit ch R pt n).1)) < 256 by omega) (show n < 8 by omega)).1
      refine ⟨rfl, by dsimp only; omega, fun k hk => ?_, fun k hk h1 h2 => ?_⟩
      · dsimp only
        rw [clr_bit (by omega) (by omega), clr_bit (by omega) h8]
        by_cases z : k = n
        · rw [decide_eq_true z, Bool.not_true, Bool.and_false]
        · rw [i3 k (by omega), Bool.false_and, Bool.false_and]
      · dsimp only at h2 ⊢
        by_cases z1 : k = Int.toNat (ch (pit ch R pt n).1)
        · rw [z1, hu_s, hu_s]
        · rw [hu_n z1, hu_n z1]
          by_cases z2 : k = n
          · rw [z2, hu_s, hu_s]
          · rw [hu_n z2, hu_n z2]
            rw [clr_bit (by omega) (by omega), clr_bit (by omega) h8, decide_eq_false z1, decide_eq_false z2, Bool.not_false, Bool.and_true, Bool.and_true] at h2
            exact i4 k hk h1 h2
    · rw [if_neg c, if_neg c]
      refine ⟨i1, i2, fun k hk => ?_, i4⟩
      by_cases z : k = n
      · rw [z]
        cases e : Nat.testBit (pit ch R pt n).1 n with
        | false => rfl
        | true => exact absurd e c
      · exact i3 k (by omega)
theorem sal_neg {lw pt : Nat → Int} : ∀ n : Nat, (∀ j, j < n → pt j = -1) → sal lw pt n = 0
  | 0, _ => rfl
  | n + 1, h => by
    rw [sal, sal_neg n (fun j hj => h j (by omega)), h n (by omega), if_pos (by omega)]
    rfl
theorem ev_fin : ∀ n : Fin 9, cnb (2 ^ n.1 - 1) 8 = n.1 ∧ (1 ≤ n.1 → tz (2 ^ n.1 - 1) = 0) := by decide +kernel
theorem lwn_le (n : Nat) : lwn n ≤ 720720 := Nat.div_le_self _ _
set_option maxRecDepth 100000 in
theorem l_mp0 {d : Nat} {h0 : hc_H} {Q : List hc_V → hc_H → Prop} {s : Nat → Int} (k : ∀ h2 pt2, (∀ q, q < 8 → pt2 q = -1) → h2.2.2 71 = mo s → h2.2.2 84 = ar 8 pt2 → Fr [84] h0 h2 → hc_wp (d + 3) mX10_marry 25 [xR 71, xI ((8 : Nat) : Int), none, none, none, none, none] [] h2 Q) : ∀ (g j : Nat) (pt : Nat → Int) (h : hc_H), (j ≤ 8 ∧ 8 < j + g) → (∀ q, q < j → pt q = -1) → h.2.2 71 = mo s → h.2.2 84 = ar 8 pt → Fr [84] h0 h → hc_wp (d + 3) mX10_marry 6 [xR 71, xI (j : Int), none, none, none, none, none] [] h Q := by
  intro g
  induction g with
  | zero =>
    intro j pt h hj
    exact absurd hj (by omega)
  | succ g ih =>
    intro j pt h hj HP H71 H84 HF
    refine wp_go rfl rfl ?_
    refine wp_go rfl rfl ?_
    refine e_cge rfl (fun c9 => ?_) (fun c9 => ?_)
    · skip
      rw [show j = 8 by omega] at HP ⊢
      exact k h pt HP H71 H84 HF
    · skip
      refine wp_go rfl rfl ?_
      refine e_get rfl H71 rfl rfl ?_
      refine wp_go rfl rfl ?_
      refine wp_go rfl rfl ?_
      refine e_iastE (p := j) rfl H84 ⟨by omega, by omega⟩ ?_
      refine e_inc (L' := [xR 71, xI ((j : Int) + 1), none, none, none, none, none]) rfl rfl (by omega) rfl ?_
      refine wp_go rfl rfl ?_
      exact ih (j + 1) _ _ (by omega) (fun q hq => by
        by_cases c : q = j
        · rw [c, hu_s]
        · rw [hu_n c]
          exact HP q (by omega)) H71 rfl (HF.wr rfl)
set_option maxRecDepth 100000 in
theorem c_marry {d : Nat} {h : hc_H} {Q : List hc_V → hc_H → Prop} {ev : Nat} {s A pt bp lw T F lwc ls ch ptc : Nat → Int} {cs : cT} {e : dX} (hs : cOK cs) (H : RA A cs e) (hev : ev + 1 = 2 ^ cs.nf) (HL : LW lwc cs.mk cs.nf cs.nf) (HQ : MSQ lwc ls ch cs.nf ev) (H71 : h.2.2 71 = mo s) (H72 : h.2.2 72 = ar 456 A) (H84 : h.2.2 84 = ar 8 pt) (H85 : h.2.2 85 = ar 8 bp) (H86 : h.2.2 86 = ar 64 lw) (H87 : h.2.2 87 = ar 9 T) (H88 : h.2.2 88 = ar 9 F) (k : ∀ (h2 : hc_H) (pt2 bp2 lw2 T2 F2 : Nat → Int), (∀ k, k < cs.nf → bp2 k = (pit ch ev ptc cs.nf).2 k) → MM h2 s A pt2 bp2 lw2 T2 F2 → Fr [84, 85, 86, 87, 88] h h2 → Q [xI (ls ev)] h2) : hc_wp (d + 3) mX10_marry 0 [xR 71, none, none, none, none, none, none] [] h Q := by
  have hn := hs.1
  have hA : A 0 = (cs.nf : Int) := H.1.1
  refine wp_go rfl rfl ?_
  refine wp_cv rfl rfl rfl H71 rfl rfl rfl ?_
  refine c_mlowers (d := d) hs H H71 H72 H86 (fun h2 lw2 hLW A86 F2 => ?_)
  refine wp_go rfl rfl ?_
  refine e_istn (L' := [xR 71, xI 0, none, none, none, none, none]) rfl rfl rfl ?_
  refine l_mp0 (d := d) (h0 := h2) (s := s) (fun h3 pt3 HP3 B71 B84 F3 => ?_) 9 0 pt h2 (by omega) (fun q hq => absurd hq (by omega)) ((F2.2.2 71 rfl).trans H71) ((F2.2.2 84 rfl).trans H84) Fr.rf
  refine wp_go rfl rfl ?_
  refine e_get rfl B71 rfl rfl ?_
  refine wp_go rfl rfl ?_
  refine e_aldE (p := 0) rfl ((F3.2.2 72 rfl).trans ((F2.2.2 72 rfl).trans H72)) rfl ⟨by omega, by omega⟩ ?_
  rw [hA]
  refine e_ifne rfl (fun c31 => ?_) (fun c31 => ?_)
  · skip
    refine e_ldcw 1000000000 rfl rfl ?_
    refine e_istn (L' := [xR 71, xI 1000000000, none, none, none, none, none]) rfl rfl rfl ?_
    refine wp_go rfl rfl ?_
    refine e_istn (L' := [xR 71, xI 1000000000, xI 0, none, none, none, none]) rfl rfl rfl ?_
    refine wp_go rfl rfl ?_
    refine e_get rfl B71 rfl rfl ?_
    refine wp_go rfl rfl ?_
    refine wp_go rfl rfl ?_
    refine e_iastE (p := 0) rfl ((F3.2.2 88 rfl).trans ((F2.2.2 88 rfl).trans H88)) ⟨by omega, by omega⟩ ?_
    refine wp_go rfl rfl ?_
    refine e_get rfl B71 rfl rfl ?_
    refine wp_go rfl rfl ?_
    refine wp_go rfl rfl ?_
    refine e_iastE (p := 0) rfl ((F3.2.2 87 rfl).trans ((F2.2.2 87 rfl).trans H87)) ⟨by omega, by omega⟩ ?_
    have h28 : 2 ^ cs.nf ≤ 256 := Nat.pow_le_pow_right (n := 2) (by decide) hn
    have hfn := ev_fin ⟨cs.nf, by omega⟩
    dsimp only at hfn
    rw [show 2 ^ cs.nf - 1 = ev by omega] at hfn
    have hbit : ∀ q, q < cs.nf → Nat.testBit ev q = true := fun q hq => by rw [show ev = 2 ^ cs.nf - 1 by omega, Nat.testBit_two_pow_sub_one]; exact decide_eq_true hq
    have htz := hfn.2 (by omega)
    have hv1 : 1 ≤ ev := bit_pos (hbit 0 (by omega))
    have hF : FR cs.nf ev pt3 := fun q hq => ⟨fun _ => HP3 q (by omega), fun z => by rw [hbit q hq] at z; exact nomatch z⟩
    have hP : PAR cs.nf ev pt3 := by
      unfold PAR
      rw [hfn.1]
      exact ⟨fun z => ⟨z, fun q hq => by rw [HP3 q (by omega)]; omega⟩, fun z => z.1⟩
    have hlw2 : ∀ a b, a ≤ b → b < cs.nf → lwc (a * 8 + b) = lw2 (8 * a + b) := fun a b h1 h2 => by
      rw [HL a b (by omega) h1 h2, hLW a b (by omega) h2]
      rfl
    have hlb : ∀ p q, p < cs.nf → q < cs.nf → 0 ≤ lw2 (8 * p + q) ∧ lw2 (8 * p + q) ≤ 720720 := fun p q h1 h2 => by
      rw [hLW p q h1 h2]
      have := lwn_le (Int.toNat (if p = q then cs.mk p else cs.mk p + cs.mk q))
      unfold lwp
      omega
    have hbd := MSQ.bd HQ hn hev (fun a b h1 h2 => by rw [hlw2 a b h1 h2]; exact hlb a b (by omega) h2) (ev + 1) ev (by omega) (Nat.le_refl _)
    refine lv_all (d := d + 1) (h0 := h3) (s := s) hn hA hev hlw2 hlb HQ (ev + 1) ev (by omega) hv1 (Nat.le_refl _) 0 pt3 bp (hc_u T 0 0) (hc_u F 0 0) 1000000000 _ _ _ _ _ (by have := cnb_8 ev 8; omega) hF hP (by rw [htz]; exact hu_s) (by rw [htz]; exact hu_s) ⟨B71, (F3.2.2 72 rfl).trans ((F2.2.2 72 rfl).trans H72), B84, (F3.2.2 85 rfl).trans ((F2.2.2 85 rfl).trans H85), (F3.2.2 86 rfl).trans A86, rfl, rfl⟩ (((Fr.rf (h := h3)).wr rfl).wr rfl) (fun h4 le4 bp4 T4 F4 a3 a4 a5 a6 u4 tf4 M4 F4r => ?_)
    rw [sal_neg cs.nf (fun j hj => HP3 j (by omega)), Int.zero_add] at u4
    have hle := u4.1 (by omega)
    refine wp_go rfl rfl ?_
    refine e_iflt rfl (fun c57 => ?_) (fun c57 => absurd c57 (by omega))
    refine wp_go rfl rfl ?_
    refine wp_ret rfl rfl ?_
    rw [hle.1]
    refine k h4 _ bp4 _ T4 F4 (fun q hq => ?_) M4 (((Fr.mono F2 (nin_sub rfl)).tr (Fr.mono F3 (nin_sub rfl)) (fun _ z => z)).tr (Fr.mono F4r (nin_sub rfl)) (fun _ z => z))
    rw [hle.2 q (by omega)]
    have hpi := pit_ind (ch := ch) (pt := pt3) (pu := ptc) (R := ev) (ev := ev) (by omega) (Nat.le_refl _) (HQ.ch hn hev) cs.nf hn
    exact hpi.2.2.2 q (by omega) (hbit q hq) (hpi.2.2.1 q hq)
  · skip
    refine wp_go rfl rfl ?_
    refine wp_ret rfl rfl ?_
    have hnf0 : cs.nf = 0 := by omega
    rw [hnf0] at hev
    have hev0 : ev = 0 := by omega
    have hls0 : (0 : Int) = ls ev := by rw [hev0, HQ.1]
    rw [hls0]
    exact k h3 pt3 bp lw2 T F (fun q hq => absurd hq (by omega)) ⟨B71, (F3.2.2 72 rfl).trans ((F2.2.2 72 rfl).trans H72), B84, (F3.2.2 85 rfl).trans ((F2.2.2 85 rfl).trans H85), (F3.2.2 86 rfl).trans A86, (F3.2.2 87 rfl).trans ((F2.2.2 87 rfl).trans H87), (F3.2.2 88 rfl).trans ((F2.2.2 88 rfl).trans H88)⟩ ((Fr.mono F2 (nin_sub rfl)).tr (Fr.mono F3 (nin_sub rfl)) (fun _ z => z))
set_option maxRecDepth 100000 in
theorem c_mmarried {d : Nat} {h : hc_H} {Q : List hc_V → hc_H → Prop} {v : Int} {ev : Nat} {s A pt bp lw T F lwc ls ch ptc : Nat → Int} {cs : cT} {e : dX} (hs : cOK cs) (H : RA A cs e) (hev : ev + 1 = 2 ^ cs.nf) (HL : LW lwc cs.mk cs.nf cs.nf) (HQ : MSQ lwc ls ch cs.nf ev) (H71 : h.2.2 71 = mo s) (H72 : h.2.2 72 = ar 456 A) (H84 : h.2.2 84 = ar 8 pt) (H85 : h.2.2 85 = ar 8 bp) (H86 : h.2.2 86 = ar 64 lw) (H87 : h.2.2 87 = ar 9 T) (H88 : h.2.2 88 = ar 9 F) (kx : ¬ (v = -1 ∨ (0 ≤ v ∧ v < (cs.nf : Int))) → Q [xI (-2)] h) (k : (v = -1 ∨ (0 ≤ v ∧ v < (cs.nf : Int))) → ∀ (h2 : hc_H) (pt2 bp2 lw2 T2 F2 : Nat → Int), MM h2 s A pt2 bp2 lw2 T2 F2 → Fr [84, 85, 86, 87, 88] h h2 → Q [xI (if v = -1 then ls ev else (pit ch ev ptc cs.nf).2 (Int.toNat v))] h2) : hc_wp (d + 4) mX10_married 0 [xR 71, xI v, none] [] h Q := by
  have hn8 := hs.1
  refine wp_go rfl rfl ?_
  refine wp_go rfl rfl ?_
  refine e_ceq rfl (fun c2 => ?_) (fun c2 => ?_)
  · skip
    refine wp_go rfl rfl ?_
    refine wp_cv rfl rfl rfl H71 rfl rfl rfl ?_
    refine c_marry (d := d) (ptc := ptc) hs H hev HL HQ H71 H72 H84 H85 H86 H87 H88 (fun h2 pt2 bp2 lw2 T2 F2 hb M2 Fr2 => ?_)
    refine e_istn (L' := [xR 71, xI v, xI (ls ev)]) rfl rfl rfl ?_
    refine wp_go rfl rfl ?_
    refine wp_go rfl rfl ?_
    refine e_cne rfl (fun c23 => ?_) (fun c23 => ?_)
    · skip
      refine wp_go rfl rfl ?_
      refine e_get rfl M2.1 rfl rfl ?_
      refine wp_go rfl rfl ?_
      refine e_aldE (p := Int.toNat v) rfl M2.2.2.2.1 rfl ⟨by omega, by omega⟩ ?_
      refine wp_ret rfl rfl ?_
      rw [hb _ (by omega)]
      have e9 := k (by omega) h2 pt2 bp2 lw2 T2 F2 M2 Fr2
      rw [if_neg (by omega)] at e9
      exact e9
    · skip
      refine wp_go rfl rfl ?_
      refine wp_go rfl rfl ?_
      refine wp_ret rfl rfl ?_
      have e9 := k (by omega) h2 pt2 bp2 lw2 T2 F2 M2 Fr2
      rw [if_pos (by omega)] at e9
      exact e9
  · skip
    refine wp_go rfl rfl ?_
    refine wp_go rfl rfl ?_
    refine wp_cv rfl rfl rfl H71 rfl rfl rfl ?_
    refine c_misF (nf := cs.nf) H71 H72 H.1.1 hs.1 (fun q7 => ?_) (fun q7 => ?_)
    · skip
      refine wp_go rfl rfl ?_
      refine wp_go rfl rfl ?_
      refine wp_cv rfl rfl rfl H71 rfl rfl rfl ?_
      refine c_marry (d := d) (ptc := ptc) hs H hev HL HQ H71 H72 H84 H85 H86 H87 H88 (fun h2 pt2 bp2 lw2 T2 F2 hb M2 Fr2 => ?_)
      refine e_istn (L' := [xR 71, xI v, xI (ls ev)]) rfl rfl rfl ?_
      refine wp_go rfl rfl ?_
      refine wp_go rfl rfl ?_
      refine e_cne rfl (fun c23 => ?_) (fun c23 => ?_)
      · skip
        refine wp_go rfl rfl ?_
        refine e_get rfl M2.1 rfl rfl ?_
        refine wp_go rfl rfl ?_
        refine e_aldE (p := Int.toNat v) rfl M2.2.2.2.1 rfl ⟨by omega, by omega⟩ ?_
        refine wp_ret rfl rfl ?_
        rw [hb _ (by omega)]
        have e9 := k (by omega) h2 pt2 bp2 lw2 T2 F2 M2 Fr2
        rw [if_neg (by omega)] at e9
        exact e9
      · skip
        refine wp_go rfl rfl ?_
        refine wp_go rfl rfl ?_
        refine wp_ret rfl rfl ?_
        have e9 := k (by omega) h2 pt2 bp2 lw2 T2 F2 M2 Fr2
        rw [if_pos (by omega)] at e9
        exact e9
    · skip
      refine wp_go rfl rfl ?_
      refine wp_go rfl rfl ?_
      refine wp_ret rfl rfl ?_
      exact kx (by omega)
