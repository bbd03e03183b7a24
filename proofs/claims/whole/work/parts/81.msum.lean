/-! the reference: a law's sum -/
def BN (nm : Nat → Int) : Prop := ∀ j, j < 7 → -1000000 ≤ nm j ∧ nm j ≤ 1000000
theorem PLv {f : Nat → Int} {x : Int} {r : List Int} (h : PL f (x :: r)) : f r.length = x := h.1
theorem o2_01 {k a b : Int} (hk : (40 ≤ k ∧ k ≤ 45) ∨ k = 20 ∨ k = 21) : clp (o2 k a b) = 0 ∨ clp (o2 k a b) = 1 := GB_op (k := k) (V := cnv a) (W := cnv b) hk 0 0 0 0 0
set_option maxRecDepth 100000 in
theorem l_mwork {d : Nat} {h0 : hc_H} {Q : List hc_V → hc_H → Prop} {tx cl : hc_V} {x0 c e : Nat} {s T nm : Nat → Int} {vs2 bs2 : List Int} (hx0 : x0 + 2 < 2720) (he : T (x0 + 2) = (e : Int)) (hce : c + 2 * e ≤ 2720) (he2 : e ≤ 320) (hnm : BN nm) (k : ∀ h2 vals2 tr2, h2.2.2 78 = arL 330 vals2 → h2.2.2 79 = arB 330 tr2 → PL vals2 vs2 → BV vs2 → Fr [78, 79] h0 h2 → Q [] h2) : ∀ (n a : Nat) (vs bs : List Int) (vals tr : Nat → Int) (h : hc_H) (l8 l9 : hc_V), evr T c nm n a (vs, bs) = some (vs2, bs2) → a + n = e → h.2.2 71 = mo s → h.2.2 74 = ar 2720 T → h.2.2 77 = ar 7 nm → h.2.2 78 = arL 330 vals → h.2.2 79 = arB 330 tr → PL vals vs → PL tr bs → BV vs → BB bs → vs.length ≤ a ∧ bs.length ≤ a → Fr [78, 79] h0 h → hc_wp (d + 3) mX10_work 38 [xR 71, tx, cl, xI (x0 : Int), xI (c : Int), xI ((vs.length : Nat) : Int), xI ((bs.length : Nat) : Int), xI (a : Int), l8, l9] [] h Q := by
  intro n
  induction n with
  | zero =>
    intro a vs bs vals tr h l8 l9 hev hae H71 H74 H77 H78 H79 hp hq hv hb hl HF
    rw [evr] at hev
    cases hev
    refine wp_go rfl rfl ?_
    refine wp_go rfl rfl ?_
    refine e_get rfl H71 rfl rfl ?_
    refine wp_go rfl rfl ?_
    refine wp_go rfl rfl ?_
    refine e_iadd rfl (by omega) ?_
    refine e_aldE (p := x0 + 2) rfl H74 rfl ⟨by omega, by omega⟩ ?_
    rw [he]
    refine e_cge rfl (fun c48 => ?_) (fun c48 => absurd (show (e : Int) ≤ (a : Int) by omega) c48)
    exact wp_ret rfl rfl (k h vals tr H78 H79 hp hv HF)
  | succ n ih =>
    intro a vs bs vals tr h l8 l9 hev hae H71 H74 H77 H78 H79 hp hq hv hb hl HF
    refine wp_go rfl rfl ?_
    refine wp_go rfl rfl ?_
    refine e_get rfl H71 rfl rfl ?_
    refine wp_go rfl rfl ?_
    refine wp_go rfl rfl ?_
    refine e_iadd rfl (by omega) ?_
    refine e_aldE (p := x0 + 2) rfl H74 rfl ⟨by omega, by omega⟩ ?_
    rw [he]
    refine e_cge rfl (fun c48 => absurd c48 (by omega)) (fun c48 => ?_)
    refine wp_go rfl rfl ?_
    refine e_get rfl H71 rfl rfl ?_
    refine wp_go rfl rfl ?_
    refine wp_go rfl rfl ?_
    refine wp_go rfl rfl ?_
    refine e_imul rfl (by omega) ?_
    refine e_iadd rfl (by omega) ?_
    refine e_aldE (p := c + 2 * a) rfl H74 rfl ⟨by omega, by omega⟩ ?_
    obtain ⟨x, hx⟩ : ∃ z, T (c + 2 * a) = z := ⟨_, rfl⟩
    obtain ⟨v, hvv⟩ : ∃ z, T (c + 2 * a + 1) = z := ⟨_, rfl⟩
    rw [evr, hx, hvv] at hev
    rw [hx]
    refine e_ist (L' := [xR 71, tx, cl, xI (x0 : Int), xI (c : Int), xI ((vs.length : Nat) : Int), xI ((bs.length : Nat) : Int), xI (a : Int), xI x, l9]) rfl rfl rfl ?_
    refine wp_go rfl rfl ?_
    refine e_get rfl H71 rfl rfl ?_
    refine wp_go rfl rfl ?_
    refine wp_go rfl rfl ?_
    refine wp_go rfl rfl ?_
    refine e_imul rfl (by omega) ?_
    refine e_iadd rfl (by omega) ?_
    refine wp_go rfl rfl ?_
    refine e_iadd rfl (by omega) ?_
    refine e_aldE (p := c + 2 * a + 1) rfl H74 rfl ⟨by omega, by omega⟩ ?_
    rw [hvv]
    refine e_ist (L' := [xR 71, tx, cl, xI (x0 : Int), xI (c : Int), xI ((vs.length : Nat) : Int), xI ((bs.length : Nat) : Int), xI (a : Int), xI x, xI v]) rfl rfl rfl ?_
    have hgo : ∀ (vs3 bs3 : List Int) (vals3 tr3 : Nat → Int) (h3 : hc_H), evr T c nm n (a + 1) (vs3, bs3) = some (vs2, bs2) → h3.2.2 78 = arL 330 vals3 → h3.2.2 79 = arB 330 tr3 → PL vals3 vs3 → PL tr3 bs3 → BV vs3 → BB bs3 → vs3.length ≤ a + 1 ∧ bs3.length ≤ a + 1 → Fr [78, 79] h h3 → hc_wp (d + 3) mX10_work 400 [xR 71, tx, cl, xI (x0 : Int), xI (c : Int), xI ((vs3.length : Nat) : Int), xI ((bs3.length : Nat) : Int), xI (a : Int), xI x, xI v] [] h3 Q := by
      intro vs3 bs3 vals3 tr3 h3 g1 g2 g3 g4 g5 g6 g7 g8 g9
      refine e_inc (L' := [xR 71, tx, cl, xI (x0 : Int), xI (c : Int), xI ((vs3.length : Nat) : Int), xI ((bs3.length : Nat) : Int), xI ((a : Int) + 1), xI x, xI v]) rfl rfl (by omega) rfl ?_
      refine wp_go rfl rfl ?_
      exact ih (a + 1) vs3 bs3 vals3 tr3 h3 _ _ g1 (by omega) ((g9.2.2 71 rfl).trans H71) ((g9.2.2 74 rfl).trans H74) ((g9.2.2 77 rfl).trans H77) g2 g3 g4 g5 g6 g7 g8 (HF.tr g9 (fun _ z => z))
    clear ih
    unfold est at hev
    by_cases c0 : x = 0
    · rw [if_pos c0] at hev
      by_cases cv : 0 ≤ v ∧ v ≤ 9999
      · rw [if_pos cv] at hev
        refine w_num H71 H74 H77 H78 H79 c0 (by omega) ?_
        exact hgo (v :: vs) bs (hc_u vals vs.length v) tr _ hev rfl H79 ⟨hu_s, PL_u vs hp (Nat.le_refl _)⟩ hq (hv.c (by omega)) hb (by rw [List.length_cons]; omega) (Fr.rf.wr rfl)
      · rw [if_neg cv] at hev
        cases hev
    rw [if_neg c0] at hev
    by_cases c1 : x = 1
    · rw [if_pos c1] at hev
      by_cases cv : 0 ≤ v ∧ v ≤ 6
      · rw [if_pos cv] at hev
        refine w_name H71 H74 H77 H78 H79 c1 cv (by omega) ?_
        exact hgo (nm v.toNat :: vs) bs (hc_u vals vs.length (nm v.toNat)) tr _ hev rfl H79 ⟨hu_s, PL_u vs hp (Nat.le_refl _)⟩ hq (hv.c (hnm _ (by omega))) hb (by rw [List.length_cons]; omega) (Fr.rf.wr rfl)
      · rw [if_neg cv] at hev
        cases hev
    rw [if_neg c1] at hev
    by_cases c2 : x = 2
    · rw [if_pos c2] at hev
      match vs, hev, hp, hv, hl with
      | [], hev, _, _, _ => cases hev
      | y :: r, hev, hp, hv, hl =>
        have hy := hv.t
        rw [List.length_cons] at hl
        refine w_neg (m := r.length) H71 H74 H77 H78 H79 c2 (by omega) (by rw [PLv hp]; exact hy.2) ?_
        rw [PLv hp]
        exact hgo ((-y) :: r) bs _ tr _ hev rfl H79 ⟨hu_s, PL_u r hp.2 (Nat.le_refl _)⟩ hq (hy.1.c (by omega)) hb (by rw [List.length_cons]; omega) (Fr.rf.wr rfl)
    rw [if_neg c2] at hev
    by_cases c3 : 3 ≤ x ∧ x ≤ 6
    · rw [if_pos c3] at hev
      match vs, hev, hp, hv, hl with
      | [], hev, _, _, _ => cases hev
      | [_], hev, _, _, _ => cases hev
      | y :: z :: r, hev, hp, hv, hl =>
        have hy := hv.t
        have hz := hy.1.t
        rw [List.length_cons, List.length_cons] at hl
        have e1 : vals (r.length + 1) = y := hp.1
        have e2 : vals r.length = z := hp.2.1
        refine w_two (m := r.length) H71 H74 H77 H78 H79 c3 (by omega) (by rw [e2]; exact hz.2) (by rw [e1]; exact hy.2) ?_
        rw [e1, e2]
        exact hgo (clp (o2 (x + 43) z y) :: r) bs _ tr _ hev rfl H79 ⟨hu_s, PL_u r hp.2.2 (Nat.le_refl _)⟩ hq (hz.1.c (clp_bd _)) hb (by rw [List.length_cons]; omega) (Fr.rf.wr rfl)
    rw [if_neg c3] at hev
    by_cases c4 : 10 ≤ x ∧ x ≤ 15
    · rw [if_pos c4] at hev
      match vs, hev, hp, hv, hl with
      | [], hev, _, _, _ => cases hev
      | [_], hev, _, _, _ => cases hev
      | y :: z :: r, hev, hp, hv, hl =>
        have hy := hv.t
        have hz := hy.1.t
        rw [List.length_cons, List.length_cons] at hl
        have e1 : vals (r.length + 1) = y := hp.1
        have e2 : vals r.length = z := hp.2.1
        refine w_ask (m := r.length) H71 H74 H77 H78 H79 c4 (by omega) (by omega) ?_
        rw [e1, e2]
        exact hgo r (clp (o2 (x + 30) z y) :: bs) vals _ _ hev H78 rfl hp.2.2 ⟨hu_s, PL_u bs hq (Nat.le_refl _)⟩ hz.1 (hb.c (o2_01 (by omega))) (by rw [List.length_cons]; omega) (Fr.rf.wr rfl)
    rw [if_neg c4] at hev
    by_cases c5 : x = 20
    · rw [if_pos c5] at hev
      match bs, hev, hq, hb, hl with
      | [], hev, _, _, _ => cases hev
      | y :: r, hev, hq, hb, hl =>
        have hy := hb.t
        rw [List.length_cons] at hl
        refine w_not (t := r.length) H71 H74 H77 H78 H79 c5 (by omega) (by rw [PLv hq]; exact hy.2) ?_
        rw [PLv hq]
        exact hgo vs ((1 - y) :: r) vals _ _ hev H78 rfl hp ⟨hu_s, PL_u r hq.2 (Nat.le_refl _)⟩ hv (hy.1.c (by omega)) (by rw [List.length_cons]; omega) (Fr.rf.wr rfl)
    rw [if_neg c5] at hev
    by_cases c6 : x = 23
    · rw [if_pos c6] at hev
      match vs, bs, hev, hp, hv, hq, hb, hl with
      | [], [], hev, _, _, _, _, _ => cases hev
      | [], _ :: _, hev, _, _, _, _, _ => cases hev
      | [_], [], hev, _, _, _, _, _ => cases hev
      | [_], _ :: _, hev, _, _, _, _, _ => cases hev
      | _ :: _ :: _, [], hev, _, _, _, _, _ => cases hev
      | y :: z :: r, b :: t, hev, hp, hv, hq, hb, hl =>
        have hy := hv.t
        have hz := hy.1.t
        have hbb := hb.t
        rw [List.length_cons, List.length_cons, List.length_cons] at hl
        have e1 : vals (r.length + 1) = y := hp.1
        have e2 : vals r.length = z := hp.2.1
        have e3 : tr t.length = b := hq.1
        refine w_sel (m := r.length) (t := t.length) H71 H74 H77 H78 H79 c6 (by omega) (by omega) ?_
        rw [e1, e2, e3]
        exact hgo ((if b = 0 then y else z) :: r) t _ tr _ hev rfl H79 ⟨hu_s, PL_u r hp.2.2 (Nat.le_refl _)⟩ hq.2 (hz.1.c (by split <;> omega)) hbb.1 (by rw [List.length_cons]; omega) (Fr.rf.wr rfl)
    rw [if_neg c6] at hev
    by_cases c7 : x = 21 ∨ x = 22
    · rw [if_pos c7] at hev
      match bs, hev, hq, hb, hl with
      | [], hev, _, _, _ => cases hev
      | [_], hev, _, _, _ => cases hev
      | y :: z :: r, hev, hq, hb, hl =>
        have hy := hb.t
        have hz := hy.1.t
        rw [List.length_cons, List.length_cons] at hl
        have e1 : tr (r.length + 1) = y := hq.1
        have e2 : tr r.length = z := hq.2.1
        refine w_and (t := r.length) H71 H74 H77 H78 H79 c7 (by omega) (by rw [e2]; exact hz.2) (by rw [e1]; exact hy.2) ?_
        rw [e1, e2]
        exact hgo vs (clp (o2 (if x = 21 then 21 else 20) z y) :: r) vals _ _ hev H78 rfl hp ⟨hu_s, PL_u r hq.2.2 (Nat.le_refl _)⟩ hv (hz.1.c (o2_01 (by split <;> omega))) (by rw [List.length_cons]; omega) (Fr.rf.wr rfl)
    rw [if_neg c7] at hev
    cases hev
set_option maxRecDepth 100000 in
theorem c_mwork9 {d : Nat} {h : hc_H} {Q : List hc_V → hc_H → Prop} {t j a b : Nat} {V : Int} {s T nm vals tr : Nat → Int} (ht : t ≤ 3) (hj : j < 24) (hab : a ≤ b ∧ b ≤ 302) (hb1 : T (680 * t + 1 + 3 * j + 1) = (a : Int)) (hb2 : T (680 * t + 1 + 3 * j + 2) = (b : Int)) (hnm : BN nm) (hev : evr T (680 * t + 75) nm (b - a) a ([], []) = some ([V], [])) (H71 : h.2.2 71 = mo s) (H74 : h.2.2 74 = ar 2720 T) (H77 : h.2.2 77 = ar 7 nm) (H78 : h.2.2 78 = arL 330 vals) (H79 : h.2.2 79 = arB 330 tr) (k : ∀ h2 vals2 tr2, h2.2.2 78 = arL 330 vals2 → h2.2.2 79 = arB 330 tr2 → vals2 0 = V → (-1000000 ≤ V ∧ V ≤ 1000000) → Fr [78, 79] h h2 → Q [] h2) : hc_wp (d + 3) mX10_work 0 [xR 71, xI (t : Int), xI (j : Int), none, none, none, none, none, none, none] [] h Q := by
  refine wp_go rfl rfl ?_
  refine wp_go rfl rfl ?_
  refine e_imul rfl (by omega) ?_
  refine wp_go rfl rfl ?_
  refine e_iadd rfl (by omega) ?_
  refine wp_go rfl rfl ?_
  refine wp_go rfl rfl ?_
  refine e_imul rfl (by omega) ?_
  refine e_iadd rfl (by omega) ?_
  refine e_istn (L' := [xR 71, xI (t : Int), xI (j : Int), xI (((680 * (t : Int)) + 1) + (3 * (j : Int))), none, none, none, none, none, none]) rfl rfl rfl ?_
  refine wp_go rfl rfl ?_
  refine wp_go rfl rfl ?_
  refine e_imul rfl (by omega) ?_
  refine wp_go rfl rfl ?_
  refine e_iadd rfl (by omega) ?_
  refine e_ist (L' := [xR 71, xI (t : Int), xI (j : Int), xI (((680 * (t : Int)) + 1) + (3 * (j : Int))), xI ((680 * (t : Int)) + 75), none, none, none, none, none]) rfl rfl rfl ?_
  refine wp_go rfl rfl ?_
  refine e_ist (L' := [xR 71, xI (t : Int), xI (j : Int), xI (((680 * (t : Int)) + 1) + (3 * (j : Int))), xI ((680 * (t : Int)) + 75), xI 0, none, none, none, none]) rfl rfl rfl ?_
  refine wp_go rfl rfl ?_
  refine e_ist (L' := [xR 71, xI (t : Int), xI (j : Int), xI (((680 * (t : Int)) + 1) + (3 * (j : Int))), xI ((680 * (t : Int)) + 75), xI 0, xI 0, none, none, none]) rfl rfl rfl ?_
  refine wp_go rfl rfl ?_
  refine e_get rfl H71 rfl rfl ?_
  refine wp_go rfl rfl ?_
  refine wp_go rfl rfl ?_
  refine e_iadd rfl (by omega) ?_
  refine e_aldE (p := 680 * t + 1 + 3 * j + 1) rfl H74 rfl ⟨by omega, by omega⟩ ?_
  rw [hb1]
  refine e_ist (L' := [xR 71, xI (t : Int), xI (j : Int), xI (((680 * (t : Int)) + 1) + (3 * (j : Int))), xI ((680 * (t : Int)) + 75), xI 0, xI 0, xI (a : Int), none, none]) rfl rfl rfl ?_
  rw [show ((((680 : Int) * (t : Int)) + 1) + (3 * (j : Int))) = ((680 * t + 1 + 3 * j : Nat) : Int) by omega, show (((680 : Int) * (t : Int)) + 75) = ((680 * t + 75 : Nat) : Int) by omega]
  exact l_mwork (d := d) (x0 := 680 * t + 1 + 3 * j) (c := 680 * t + 75) (e := b) (vs2 := [V]) (bs2 := []) (by omega) hb2 (by omega) (by omega) hnm (fun h2 vals2 tr2 A1 A0 A2 A3 A4 => k h2 vals2 tr2 A1 A0 A2.1 (A3.t).2 A4) (b - a) a [] [] vals tr h _ _ hev (by omega) H71 H74 H77 H78 H79 trivial trivial (fun z hz => absurd hz List.not_mem_nil) (fun z hz => absurd hz List.not_mem_nil) ⟨Nat.zero_le _, Nat.zero_le _⟩ Fr.rf
def TXL (T : Nat → Int) (t0 nc : Nat) (lw : Int) (g : Option ef) : Prop := (∀ k, k < nc → T (t0 + 1 + 3 * k) = lw - 10 → ∃ (V : ef) (a b : Nat), g = some V ∧ T (t0 + 1 + 3 * k + 1) = (a : Int) ∧ T (t0 + 1 + 3 * k + 2) = (b : Int) ∧ b ≤ 302 ∧ PC lw T (t0 + 75) a b V false) ∧ (g.isSome = true → ∃ k, k < nc ∧ T (t0 + 1 + 3 * k) = lw - 10)
def MV (h : hc_H) : Prop := (∃ v, h.2.2 78 = arL 330 v) ∧ ∃ t, h.2.2 79 = arB 330 t
def smv (g : Option ef) (lw : Int) (nm : Nat → Int) (top wo : Int) : Int := match g with
  | none => wo
  | some V => cut0 (vlw lw V nm) top
set_option maxRecDepth 100000 in
theorem l_sumOf {d : Nat} {h : hc_H} {Q : List hc_V → hc_H → Prop} {t nc : Nat} {y top wo lw : Int} {g : Option ef} {s T nm vals tr : Nat → Int} (hlw : lw = 10 ∨ lw = 11) (ht : t ≤ 3) (hnm : BN nm) (htop : 0 ≤ top) (H71 : h.2.2 71 = mo s) (H74 : h.2.2 74 = ar 2720 T) (H77 : h.2.2 77 = ar 7 nm) (H78 : h.2.2 78 = arL 330 vals) (H79 : h.2.2 79 = arB 330 tr) (hnc : T (680 * t) = (nc : Int)) (hnc2 : nc ≤ 24) (TL : TXL T (680 * t) nc lw g) (hy : y = lw - 10) (k : ∀ h2, Fr [78, 79] h h2 → MV h2 → Q [xI (smv g lw nm top wo)] h2) : ∀ (n j : Nat), (j ≤ nc ∧ nc < j + n) → (∀ k9, k9 < j → T (680 * t + 1 + 3 * k9) ≠ lw - 10) → hc_wp (d + 4) mX10_sumOf 3 [xR 71, xI (t : Int), xI y, xI top, xI wo, xI (j : Int)] [] h Q := by
  intro n
  induction n with
  | zero =>
    intro j hj
    exact absurd hj (by omega)
  | succ n ih =>
    intro j hj hno
    refine wp_go rfl rfl ?_
    refine e_iflt rfl (fun c4 => absurd c4 (by omega)) (fun c4 => ?_)
    refine wp_go rfl rfl ?_
    refine wp_go rfl rfl ?_
    refine e_get rfl H71 rfl rfl ?_
    refine wp_go rfl rfl ?_
    refine wp_go rfl rfl ?_
    refine e_imul rfl (by omega) ?_
    refine e_aldE (p := 680 * t) rfl H74 rfl ⟨by omega, by omega⟩ ?_
    rw [hnc]
    refine e_cge rfl (fun c19 => ?_) (fun c19 => ?_)
    · skip
      refine wp_go rfl rfl ?_
      refine wp_ret rfl rfl ?_
      have e9 : smv g lw nm top wo = wo := by
        cases hg : g with
        | none => rfl
        | some V =>
          obtain ⟨k9, z1, z2⟩ := TL.2 (by rw [hg]; rfl)
          exact absurd z2 (hno k9 (by omega))
      rw [← e9]
      exact k h Fr.rf ⟨⟨vals, H78⟩, ⟨tr, H79⟩⟩
    · skip
      refine wp_go rfl rfl ?_
      refine e_get rfl H71 rfl rfl ?_
      refine wp_go rfl rfl ?_
      refine wp_go rfl rfl ?_
      refine e_imul rfl (by omega) ?_
      refine wp_go rfl rfl ?_
      refine e_iadd rfl (by omega) ?_
      refine wp_go rfl rfl ?_
      refine wp_go rfl rfl ?_
      refine e_imul rfl (by omega) ?_
      refine e_iadd rfl (by omega) ?_
      refine e_aldE (p := 680 * t + 1 + 3 * j) rfl H74 rfl ⟨by omega, by omega⟩ ?_
      refine wp_go rfl rfl ?_
      refine e_ceq rfl (fun c40 => ?_) (fun c40 => ?_)
      · skip
        refine wp_go rfl rfl ?_
        refine wp_go rfl rfl ?_
        refine wp_go rfl rfl ?_
        refine wp_cv rfl rfl rfl H71 rfl rfl rfl ?_
        obtain ⟨V, a, b, g1, g2, g3, g4, g5⟩ := TL.1 j (by omega) (by omega)
        have hev := g5.2 nm ([], [])
        refine c_mwork9 (V := vlw lw V nm) ht (by omega) ⟨g5.1, g4⟩ g2 g3 hnm hev H71 H74 H77 H78 H79 (fun h2 vals2 tr2 A1 A0 A2 A3 A4 => ?_)
        refine wp_go rfl rfl ?_
        refine e_get rfl ((A4.2.2 71 rfl).trans H71) rfl rfl ?_
        refine wp_go rfl rfl ?_
        refine e_laldE (p := 0) rfl A1 ⟨by omega, by omega⟩ ?_
        rw [A2]
        refine wp_go rfl rfl ?_
        refine wp_call rfl rfl rfl rfl ?_
        refine c_between A3 htop ?_
        refine wp_ret rfl rfl ?_
        have e9 : smv g lw nm top wo = cut0 (vlw lw V nm) top := by rw [g1]; rfl
        rw [← e9]
        exact k h2 A4 ⟨⟨vals2, A1⟩, ⟨tr2, A0⟩⟩
      · skip
        refine wp_go rfl rfl ?_
        refine e_inc (L' := [xR 71, xI (t : Int), xI y, xI top, xI wo, xI ((j : Int) + 1)]) rfl rfl (by omega) rfl ?_
        refine wp_go rfl rfl ?_
        exact ih (j + 1) (by omega) (fun k9 hk9 => by
          rcases Nat.lt_or_ge k9 j with z | z
          · exact hno k9 z
          · rw [show k9 = j by omega]; intro y2; exact c40 (y2.trans hy.symm))
set_option maxRecDepth 100000 in
theorem c_sumOf {d : Nat} {h : hc_H} {Q : List hc_V → hc_H → Prop} {t nc : Nat} {y top wo lw : Int} {g : Option ef} {s T nm vals tr : Nat → Int} (hlw : lw = 10 ∨ lw = 11) (ht : t ≤ 3) (hnm : BN nm) (htop : 0 ≤ top) (H71 : h.2.2 71 = mo s) (H74 : h.2.2 74 = ar 2720 T) (H77 : h.2.2 77 = ar 7 nm) (H78 : h.2.2 78 = arL 330 vals) (H79 : h.2.2 79 = arB 330 tr) (hnc : T (680 * t) = (nc : Int)) (hnc2 : nc ≤ 24) (TL : TXL T (680 * t) nc lw g) (hy : y = lw - 10) (k : ∀ h2, Fr [78, 79] h h2 → MV h2 → Q [xI (smv g lw nm top wo)] h2) : hc_wp (d + 4) mX10_sumOf 0 [xR 71, xI (t : Int), xI y, xI top, xI wo, none] [] h Q := by
  refine wp_go rfl rfl ?_
  refine e_ist (L' := [xR 71, xI (t : Int), xI y, xI top, xI wo, xI 0]) rfl rfl rfl ?_
  exact l_sumOf hlw ht hnm htop H71 H74 H77 H78 H79 hnc hnc2 TL hy k (nc + 1) 0 (by omega) (fun k9 hk9 => absurd hk9 (by omega))
set_option maxRecDepth 100000 in
theorem c_sumOfN {d : Nat} {h : hc_H} {Q : List hc_V → hc_H → Prop} {t y top wo : Int} (ht : t < 0) (k : Q [xI wo] h) : hc_wp (d + 4) mX10_sumOf 0 [xR 71, xI t, xI y, xI top, xI wo, none] [] h Q := by
  refine wp_go rfl rfl ?_
  refine e_ist (L' := [xR 71, xI t, xI y, xI top, xI wo, xI 0]) rfl rfl rfl ?_
  refine wp_go rfl rfl ?_
  refine e_iflt rfl (fun c4 => ?_) (fun c4 => absurd ht c4)
  refine wp_go rfl rfl ?_
  refine wp_ret rfl rfl ?_
  exact k
