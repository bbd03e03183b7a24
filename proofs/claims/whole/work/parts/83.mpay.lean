/-! the reference: tolls, rubs, grants, payments -/
def MTX (T : Nat → Int) (t : Int) (ft fr : Option ef) : Prop := (t < 0 ∧ ft = none ∧ fr = none) ∨ ∃ n nc : Nat, t = (n : Int) ∧ n ≤ 3 ∧ T (680 * n) = (nc : Int) ∧ nc ≤ 24 ∧ TXL T (680 * n) nc 10 ft ∧ TXL T (680 * n) nc 11 fr
def NB (h : hc_H) : Prop := ∃ nm, BN nm ∧ h.2.2 77 = ar 7 nm
def MVN (h : hc_H) : Prop := NB h ∧ MV h
theorem MVN.fr {h h2 : hc_H} {l : List Nat} (H : MVN h) (F : Fr l h h2) (hl : (nin l 77 && nin l 78 && nin l 79) = true) : MVN h2 := by
  simp only [Bool.and_eq_true] at hl
  obtain ⟨⟨nm, a, b⟩, ⟨v, c⟩, ⟨t, g⟩⟩ := H
  exact ⟨⟨nm, a, (F.2.2 77 hl.1.1).trans b⟩, ⟨v, (F.2.2 78 hl.1.2).trans c⟩, ⟨t, (F.2.2 79 hl.2).trans g⟩⟩
theorem BN.u {nm : Nat → Int} {k : Nat} {v : Int} (H : BN nm) (hv : -1000000 ≤ v ∧ v ≤ 1000000) : BN (hc_u nm k v) := by
  intro j hj
  unfold hc_u
  split
  · exact hv
  · exact H j hj
theorem cut0_0 {v : Int} : cut0 v 0 = 0 := by
  have := cut0_bd (v := v) (top := 0) (Int.le_refl 0)
  omega
theorem smv_rb {fr : Option ef} {nm : Nat → Int} {has : Int} (h : 0 ≤ has) : smv fr 11 nm has 0 = rbv fr (nm 0) has (nm 2) (nm 5) (nm 6) ∨ nm 1 ≠ has := by
  by_cases c : nm 1 = has
  · refine Or.inl ?_
    cases fr with
    | none => rfl
    | some V =>
      show cut0 (V (nm 0) (nm 1) (nm 2) (nm 5) (nm 6)) has = if has < 1 then 0 else cut0 (V (nm 0) has (nm 2) (nm 5) (nm 6)) has
      rw [c]
      split
      · rw [show has = 0 by omega]
        exact cut0_0
      · rfl
  · exact Or.inr c
set_option maxRecDepth 100000 in
theorem c_rubsOf {d : Nat} {h : hc_H} {Q : List hc_V → hc_H → Prop} {p : Nat} {t m dy wt sl : Int} {ft fr : Option ef} {s A T : Nat → Int} (H71 : h.2.2 71 = mo s) (H72 : h.2.2 72 = ar 456 A) (H74 : h.2.2 74 = ar 2720 T) (hN : MVN h) (hT : MTX T t ft fr) (hp : p < 8) (hsl : A (12 + 2 * p + 1) = sl) (hsb : 0 ≤ sl ∧ sl ≤ 9) (hm : 0 ≤ m ∧ m ≤ 720720) (hdy : 0 ≤ dy ∧ dy ≤ 2000) (hwt : wt = 0 ∨ wt = 1) (k : ∀ h2, MVN h2 → Fr [77, 78, 79] h h2 → Q [xI (rbv fr (p : Int) m dy sl wt)] h2) : hc_wp (d + 5) mX10_rubsOf 0 [xR 71, xI t, xI (p : Int), xI m, xI dy, xI wt] [] h Q := by
  obtain ⟨⟨nm, hnm, H77⟩, hv⟩ := hN
  refine wp_go rfl rfl ?_
  refine e_get rfl H71 rfl rfl ?_
  refine wp_go rfl rfl ?_
  refine wp_go rfl rfl ?_
  refine e_iastE (p := 0) rfl H77 ⟨by omega, by omega⟩ ?_
  refine wp_go rfl rfl ?_
  refine e_get rfl H71 rfl rfl ?_
  refine wp_go rfl rfl ?_
  refine wp_go rfl rfl ?_
  refine e_iastE (p := 1) rfl rfl ⟨by omega, by omega⟩ ?_
  refine wp_go rfl rfl ?_
  refine e_get rfl H71 rfl rfl ?_
  refine wp_go rfl rfl ?_
  refine wp_go rfl rfl ?_
  refine e_iastE (p := 2) rfl rfl ⟨by omega, by omega⟩ ?_
  refine wp_go rfl rfl ?_
  refine e_get rfl H71 rfl rfl ?_
  refine wp_go rfl rfl ?_
  refine wp_go rfl rfl ?_
  refine e_get rfl H71 rfl rfl ?_
  refine wp_go rfl rfl ?_
  refine wp_go rfl rfl ?_
  refine wp_go rfl rfl ?_
  refine e_imul rfl (by omega) ?_
  refine e_iadd rfl (by omega) ?_
  refine wp_go rfl rfl ?_
  refine e_iadd rfl (by omega) ?_
  refine e_aldE (p := 12 + 2 * p + 1) rfl H72 rfl ⟨by omega, by omega⟩ ?_
  rw [hsl]
  refine e_iastE (p := 5) rfl rfl ⟨by omega, by omega⟩ ?_
  refine wp_go rfl rfl ?_
  refine e_get rfl H71 rfl rfl ?_
  refine wp_go rfl rfl ?_
  refine wp_go rfl rfl ?_
  refine e_iastE (p := 6) rfl rfl ⟨by omega, by omega⟩ ?_
  refine wp_go rfl rfl ?_
  refine wp_go rfl rfl ?_
  refine wp_go rfl rfl ?_
  refine wp_go rfl rfl ?_
  refine wp_go rfl rfl ?_
  refine wp_cv rfl rfl rfl H71 rfl rfl rfl ?_
  have hbn : BN (hc_u (hc_u (hc_u (hc_u (hc_u nm 0 (p : Int)) 1 m) 2 dy) 5 sl) 6 wt) := ((((hnm.u (by omega)).u (by omega)).u (by omega)).u (by omega)).u (by omega)
  rcases hT with ⟨z1, z2, z3⟩ | ⟨n, nc, z1, z2, z3, z4, z5, z6⟩
  · refine c_sumOfN z1 ?_
    refine wp_ret rfl rfl ?_
    rw [z3] at k
    exact k _ ⟨⟨_, hbn, rfl⟩, hv⟩ (((((Fr.rf.wr rfl).wr rfl).wr rfl).wr rfl).wr rfl)
  obtain ⟨⟨vals, H78⟩, ⟨tr, H79⟩⟩ := hv
  rw [z1]
  refine c_sumOf (lw := 11) (g := fr) (nm := (hc_u (hc_u (hc_u (hc_u (hc_u nm 0 (p : Int)) 1 m) 2 dy) 5 sl) 6 wt)) (Or.inr rfl) z2 hbn hm.1 H71 H74 rfl H78 H79 z3 z4 z6 rfl (fun h2 F2 hv2 => ?_)
  refine wp_ret rfl rfl ?_
  have e9 : smv fr 11 (hc_u (hc_u (hc_u (hc_u (hc_u nm 0 (p : Int)) 1 m) 2 dy) 5 sl) 6 wt) m 0 = rbv fr (p : Int) m dy sl wt := by
    rcases smv_rb (fr := fr) (nm := (hc_u (hc_u (hc_u (hc_u (hc_u nm 0 (p : Int)) 1 m) 2 dy) 5 sl) 6 wt)) (has := m) hm.1 with y | y
    · exact y
    · exact absurd rfl y
  rw [e9]
  exact k h2 ⟨⟨(hc_u (hc_u (hc_u (hc_u (hc_u nm 0 (p : Int)) 1 m) 2 dy) 5 sl) 6 wt), hbn, (F2.2.2 77 rfl).trans rfl⟩, hv2⟩ (Fr.tr (l2 := [77, 78, 79]) (((((Fr.rf.wr rfl).wr rfl).wr rfl).wr rfl).wr rfl) (Fr.mono F2 (nin_sub rfl)) (fun _ z => z))
theorem cOK.mkb {s : cT} (H : cOK s) : ∀ j, j < 8 → 0 ≤ s.mk j ∧ s.mk j ≤ 720720 := H.2.1.1
theorem RA.mkv {A : Nat → Int} {s : cT} {e : dX} (H : RA A s e) : ∀ p, p < 8 → A (12 + 2 * p) = s.mk p := fun p hp => (H.2.1 p hp).1
def setM (s : cT) (mk : Nat → Int) : cT := (s.1, s.2.1, s.2.2.1, s.2.2.2.1, s.2.2.2.2.1, s.2.2.2.2.2.1, s.2.2.2.2.2.2.1, s.2.2.2.2.2.2.2.1, mk, s.2.2.2.2.2.2.2.2.2)
theorem RA.um {A : Nat → Int} {s : cT} {e : dX} {p : Nat} {v : Int} (H : RA A s e) (hp : p < 8) : RA (hc_u A (12 + 2 * p) v) (setM s (hc_u s.mk p v)) e := by
  refine RA.mk H (fun a ha => hu_n (by omega)) (fun q hq => ⟨?_, hu_n (by omega)⟩) (fun a ha => hu_n (by omega))
  by_cases c : q = p
  · rw [c, hu_s, hu_s]
  · rw [hu_n (by omega), hu_n c]
    exact H.mkv q hq
set_option maxRecDepth 100000 in
theorem c_mgrant {d : Nat} {h : hc_H} {Q : List hc_V → hc_H → Prop} {p m : Int} {s A : Nat → Int} {cs : cT} {e : dX} (hs : cOK cs) (H : RA A cs e) (H71 : h.2.2 71 = mo s) (H72 : h.2.2 72 = ar 456 A) (kf : ¬ ((0 ≤ p ∧ p < (cs.nf : Int)) ∧ 1 ≤ m ∧ m ≤ 720720 - smk cs.mk cs.nf) → Q [xI (-1)] h) (kt : (0 ≤ p ∧ p < (cs.nf : Int)) → 1 ≤ m → m ≤ 720720 - smk cs.mk cs.nf → MK cs.nf (hc_u cs.mk (Int.toNat p) (cs.mk (Int.toNat p) + m)) → ∀ h2 A2, h2.2.2 72 = ar 456 A2 → RA A2 (kepS cs (hc_u cs.mk (Int.toNat p) (cs.mk (Int.toNat p) + m))) e → Fr [72] h h2 → Q [xI (720720 - smk (hc_u cs.mk (Int.toNat p) (cs.mk (Int.toNat p) + m)) cs.nf)] h2) : hc_wp (d + 2) mX10_grant 0 [xR 71, xI p, xI m] [] h Q := by
  refine wp_go rfl rfl ?_
  refine wp_go rfl rfl ?_
  refine wp_cv rfl rfl rfl H71 rfl rfl rfl ?_
  refine c_misF H71 H72 H.1.1 hs.1 (fun q2 => ?_) (fun q2 => ?_)
  · skip
    refine wp_go rfl rfl ?_
    refine wp_go rfl rfl ?_
    refine wp_go rfl rfl ?_
    refine e_clt rfl (fun c10 => ?_) (fun c10 => ?_)
    · skip
      refine wp_go rfl rfl ?_
      refine wp_ret rfl rfl ?_
      exact kf (by omega)
    · skip
      refine wp_go rfl rfl ?_
      refine wp_go rfl rfl ?_
      refine wp_cv rfl rfl rfl H71 rfl rfl rfl ?_
      have hsb := smk_bd (mk := cs.mk) cs.nf (fun j hj => hs.mkb j (by have := hs.1; omega))
      have hn8 := hs.1
      refine c_boxed H71 H72 H.1.1 hs.1 H.mkv hs.mkb ?_
      refine e_cle rfl (fun c18 => ?_) (fun c18 => ?_)
      · skip
        refine wp_go rfl rfl ?_
        refine wp_cv rfl rfl rfl H71 rfl rfl rfl ?_
        refine c_mkeep hs H H71 H72 (fun h1 A1 B72 RA1 F1 => ?_)
        obtain ⟨q, rfl⟩ : ∃ q : Nat, p = (q : Int) := ⟨p.toNat, by omega⟩
        have hM : MK cs.nf (hc_u cs.mk q (cs.mk q + m)) := hs.2.1.add hs.1 (by omega) (by omega) (by omega)
        have hmq := hs.mkb q (by omega)
        have hA1 : A1 (12 + 2 * q) = cs.mk q := RA1.mkv q (by omega)
        refine wp_go rfl rfl ?_
        refine e_get rfl ((F1.2.2 71 rfl).trans H71) rfl rfl ?_
        refine wp_go rfl rfl ?_
        refine wp_go rfl rfl ?_
        refine wp_go rfl rfl ?_
        refine e_imul rfl (by omega) ?_
        refine e_iadd rfl (by omega) ?_
        refine wp_go rfl rfl ?_
        refine e_aldE (p := 12 + 2 * q) rfl B72 rfl ⟨by omega, by omega⟩ ?_
        rw [hA1]
        refine wp_go rfl rfl ?_
        refine e_iadd rfl (by omega) ?_
        refine e_iastE (p := 12 + 2 * q) rfl B72 ⟨by omega, by omega⟩ ?_
        refine wp_go rfl rfl ?_
        refine wp_cv rfl rfl rfl ((F1.2.2 71 rfl).trans H71) rfl rfl rfl ?_
        have RA2 : RA (hc_u A1 (12 + 2 * q) (cs.mk q + m)) (kepS cs (hc_u cs.mk q (cs.mk q + m))) e := RA.um (p := q) RA1 (by omega)
        refine c_boxed (nf := cs.nf) (mk := hc_u cs.mk q (cs.mk q + m)) ((F1.2.2 71 rfl).trans H71) rfl RA2.1.1 hs.1 RA2.mkv hM.1 ?_
        refine wp_ret rfl rfl ?_
        exact kt (by omega) (by omega) (by omega) hM _ _ rfl RA2 (F1.wr rfl)
      · skip
        refine wp_go rfl rfl ?_
        refine wp_ret rfl rfl ?_
        exact kf (by omega)
  · skip
    refine wp_go rfl rfl ?_
    refine wp_go rfl rfl ?_
    refine wp_ret rfl rfl ?_
    exact kf (by omega)
theorem toll_left {m p q : Int} (hm : 0 ≤ m ∧ m ≤ 720720) (hp : 1 ≤ p) (hq : p ≤ q) (h9 : q ≤ 99) (hr : m * p % q ≠ 0) : m * p / q < m := by
  have h1 := Int.mul_ediv_add_emod (m * p) q
  have h2 := Int.emod_lt_of_pos (m * p) (show 0 < q by omega)
  have h3 := Int.emod_nonneg (m * p) (show q ≠ 0 by omega)
  refine Decidable.byContradiction (fun c => ?_)
  have h4 : m ≤ m * p / q := by omega
  have h5 : q * m ≤ q * (m * p / q) := Int.mul_le_mul_of_nonneg_left h4 (by omega)
  have h6 : m * p ≤ m * q := Int.mul_le_mul_of_nonneg_left hq hm.1
  have h7 : m * q = q * m := Int.mul_comm m q
  omega
theorem smv_tl {ft : Option ef} {nm : Nat → Int} {top : Int} (h : 1 ≤ top) : smv ft 10 nm top 1 = (match ft with
  | none => (if top < 1 then top else 1)
  | some G => cut0 (G (nm 0) (nm 1) (nm 2) (nm 3) (nm 4)) top) := by
  cases ft with
  | none =>
    show (1 : Int) = if top < 1 then top else 1
    rw [if_neg (by omega)]
  | some V => rfl
theorem smk_pair9 {nf : Nat} {mk : Nat → Int} {a b : Nat} (H : MK nf mk) (ha : a < 8) (hb : b < 8) (hab : a ≠ b) : mk a + mk b ≤ 720720 := by
  have h := H.2.2
  rcases Nat.lt_or_ge a b with c | c
  · have := smk_pair (mk := mk) (a := a) (b := b) 8 (fun j hj => (H.1 j hj).1) c hb
    omega
  · have := smk_pair (mk := mk) (a := b) (b := a) 8 (fun j hj => (H.1 j hj).1) (by omega) ha
    omega
theorem MVN.w72 {h : hc_H} {v : hc_E} (H : MVN h) : MVN (hc_wr h 72 v) := H.fr ((Fr.rf (l := [72])).wr rfl) rfl
set_option maxRecDepth 100000 in
theorem c_mpay {d : Nat} {h : hc_H} {Q : List hc_V → hc_H → Prop} {a b p g : Int} {ft fr : Option ef} {s A T : Nat → Int} {cs : cT} {e : dX} (hs : cOK cs) (H : RA A cs e) (H71 : h.2.2 71 = mo s) (H72 : h.2.2 72 = ar 456 A) (H74 : h.2.2 74 = ar 2720 T) (hN : MVN h) (hT : MTX T cs.ru ft fr) (kf : ¬ ((0 ≤ a ∧ a < (cs.nf : Int)) ∧ (0 ≤ b ∧ b < (cs.nf : Int)) ∧ a ≠ b ∧ 1 ≤ p ∧ p ≤ g ∧ g ≤ 99) → Q [xI (-1)] h) (kt : (0 ≤ a ∧ a < (cs.nf : Int)) → (0 ≤ b ∧ b < (cs.nf : Int)) → a ≠ b → (1 ≤ p ∧ p ≤ g ∧ g ≤ 99) → ∀ pd tl : Int, pd = cs.mk (Int.toNat a) * p / g → tl = (if cs.mk (Int.toNat a) * p % g = 0 then 0 else tlv ft a (cs.mk (Int.toNat a)) cs.dy pd (cs.mk (Int.toNat a) * p % g)) → ∀ h2 A2, h2.2.2 72 = ar 456 A2 → RA A2 (kepS cs (hc_u (hc_u cs.mk (Int.toNat a) (cs.mk (Int.toNat a) - (pd + tl))) (Int.toNat b) (hc_u cs.mk (Int.toNat a) (cs.mk (Int.toNat a) - (pd + tl)) (Int.toNat b) + pd))) e → MVN h2 → Fr [72, 77, 78, 79] h h2 → Q [xI pd] h2) : hc_wp (d + 6) mX10_pay 0 [xR 71, xI a, xI b, xI p, xI g, none, none, none] [] h Q := by
  refine wp_go rfl rfl ?_
  refine wp_go rfl rfl ?_
  refine wp_cv rfl rfl rfl H71 rfl rfl rfl ?_
  refine c_misF H71 H72 H.1.1 hs.1 (fun q2 => ?_) (fun q2 => ?_)
  · skip
    refine wp_go rfl rfl ?_
    refine wp_go rfl rfl ?_
    refine wp_go rfl rfl ?_
    refine wp_cv rfl rfl rfl H71 rfl rfl rfl ?_
    refine c_misF H71 H72 H.1.1 hs.1 (fun q10 => ?_) (fun q10 => ?_)
    · skip
      refine wp_go rfl rfl ?_
      refine wp_go rfl rfl ?_
      refine wp_go rfl rfl ?_
      refine e_ceq rfl (fun c18 => ?_) (fun c18 => ?_)
      · skip
        refine wp_go rfl rfl ?_
        refine wp_ret rfl rfl ?_
        exact kf (by omega)
      · skip
        refine wp_go rfl rfl ?_
        refine wp_go rfl rfl ?_
        refine wp_go rfl rfl ?_
        refine wp_call rfl rfl rfl rfl ?_
        refine c_isIn  (fun q26 => ?_) (fun q26 => ?_)
        · skip
          refine wp_go rfl rfl ?_
          refine wp_go rfl rfl ?_
          refine wp_go rfl rfl ?_
          refine wp_go rfl rfl ?_
          refine wp_call rfl rfl rfl rfl ?_
          refine c_isIn  (fun q36 => ?_) (fun q36 => ?_)
          · skip
            refine wp_go rfl rfl ?_
            refine wp_go rfl rfl ?_
            refine wp_cv rfl rfl rfl H71 rfl rfl rfl ?_
            refine c_mkeep hs H H71 H72 (fun h1 A1 B72 RA1 F1 => ?_)
            obtain ⟨u, rfl⟩ : ∃ q : Nat, a = (q : Int) := ⟨a.toNat, by omega⟩
            obtain ⟨v, rfl⟩ : ∃ q : Nat, b = (q : Int) := ⟨b.toNat, by omega⟩
            have hn8 := hs.1
            have hmu := hs.mkb u (by omega)
            have hmv := hs.mkb v (by omega)
            have har := ho_ar (m := cs.mk u) (p := p) (q := g) hmu (by omega) (by omega) (by omega)
            have hsm := smk_pair9 hs.2.1 (a := u) (b := v) (by omega) (by omega) (by omega)
            obtain ⟨pd, hpd⟩ : ∃ z, z = cs.mk u * p / g := ⟨_, rfl⟩
            obtain ⟨rs, hrs⟩ : ∃ z, z = cs.mk u * p % g := ⟨_, rfl⟩
            rw [← hpd, ← hrs] at har
            have RA2 : RA (hc_u A1 (12 + 2 * u) (cs.mk u - pd)) (kepS cs (hc_u cs.mk u (cs.mk u - pd))) e := RA.um (p := u) RA1 (by omega)
            have RA3 : RA (hc_u (hc_u A1 (12 + 2 * u) (cs.mk u - pd)) (12 + 2 * v) (cs.mk v + pd)) (kepS cs (hc_u (hc_u cs.mk u (cs.mk u - pd)) v (cs.mk v + pd))) e := RA.um (p := v) RA2 (by omega)
            refine wp_go rfl rfl ?_
            refine wp_go rfl rfl ?_
            refine wp_cv rfl rfl rfl ((F1.2.2 71 rfl).trans H71) rfl rfl rfl ?_
            refine c_marksOf (p := u) ((F1.2.2 71 rfl).trans H71) B72 (by omega) ?_
            rw [show A1 (12 + 2 * u) = cs.mk u from RA1.mkv u (by omega)]
            refine e_ist (L' := [xR 71, xI (u : Int), xI (v : Int), xI p, xI g, xI (cs.mk u), none, none]) rfl rfl rfl ?_
            refine wp_go rfl rfl ?_
            refine wp_go rfl rfl ?_
            refine e_imul rfl (by have := har.1; omega) ?_
            refine wp_go rfl rfl ?_
            refine e_idiv rfl (by omega) (by rw [har.2.1]; omega) ?_
            rw [har.2.1]
            refine e_ist (L' := [xR 71, xI (u : Int), xI (v : Int), xI p, xI g, xI (cs.mk u), xI pd, none]) rfl rfl rfl ?_
            refine wp_go rfl rfl ?_
            refine wp_go rfl rfl ?_
            refine e_imul rfl (by have := har.1; omega) ?_
            refine wp_go rfl rfl ?_
            refine e_irem rfl (by omega) ?_
            rw [har.2.2.2.1]
            refine e_ist (L' := [xR 71, xI (u : Int), xI (v : Int), xI p, xI g, xI (cs.mk u), xI pd, xI rs]) rfl rfl rfl ?_
            refine wp_go rfl rfl ?_
            refine e_get rfl ((F1.2.2 71 rfl).trans H71) rfl rfl ?_
            refine wp_go rfl rfl ?_
            refine wp_go rfl rfl ?_
            refine wp_go rfl rfl ?_
            refine e_imul rfl (by omega) ?_
            refine e_iadd rfl (by omega) ?_
            refine wp_go rfl rfl ?_
            refine e_aldE (p := 12 + 2 * u) rfl B72 rfl ⟨by omega, by omega⟩ ?_
            rw [show A1 (12 + 2 * u) = cs.mk u from RA1.mkv u (by omega)]
            refine wp_go rfl rfl ?_
            refine e_isub rfl (by omega) ?_
            refine e_iastE (p := 12 + 2 * u) rfl B72 ⟨by omega, by omega⟩ ?_
            refine wp_go rfl rfl ?_
            refine e_get rfl ((F1.2.2 71 rfl).trans H71) rfl rfl ?_
            refine wp_go rfl rfl ?_
            refine wp_go rfl rfl ?_
            refine wp_go rfl rfl ?_
            refine e_imul rfl (by omega) ?_
            refine e_iadd rfl (by omega) ?_
            refine wp_go rfl rfl ?_
            refine e_aldE (p := 12 + 2 * v) rfl rfl rfl ⟨by omega, by omega⟩ ?_
            rw [show hc_u A1 (12 + 2 * u) (cs.mk u - pd) (12 + 2 * v) = cs.mk v from (hu_n (by omega)).trans (RA1.mkv v (by omega))]
            refine wp_go rfl rfl ?_
            refine e_iadd rfl (by omega) ?_
            refine e_iastE (p := 12 + 2 * v) rfl rfl ⟨by omega, by omega⟩ ?_
            refine wp_go rfl rfl ?_
            refine e_ifne rfl (fun c107 => ?_) (fun c107 => ?_)
            · skip
              have hrs0 : rs ≠ 0 := c107
              have hlt := toll_left hmu (by omega) (by omega) (by omega) (show cs.mk u * p % g ≠ 0 by omega)
              obtain ⟨⟨nm, hnm, H77⟩, ⟨vals, H78⟩, ⟨tr, H79⟩⟩ := id hN
              have hdyb : -1000000 ≤ cs.dy ∧ cs.dy ≤ 1000000 := by have := hs.2.2.2.1; omega
              have hbn : BN (hc_u (hc_u (hc_u (hc_u (hc_u nm 0 (u : Int)) 1 (cs.mk u)) 2 cs.dy) 3 pd) 4 rs) := ((((hnm.u (by omega)).u (by omega)).u hdyb).u (by omega)).u (by omega)
              obtain ⟨tl, htl⟩ : ∃ z, z = tlv ft (u : Int) (cs.mk u) cs.dy pd rs := ⟨_, rfl⟩
              have htb := tlv_bd (ft := ft) (who := (u : Int)) (has := cs.mk u) (day := cs.dy) (paid := pd) (rest := rs) (by omega)
              rw [← htl] at htb
              have etl : smv ft 10 (hc_u (hc_u (hc_u (hc_u (hc_u nm 0 (u : Int)) 1 (cs.mk u)) 2 cs.dy) 3 pd) 4 rs) (cs.mk u - pd) 1 = tl := by
                rw [htl, smv_tl (by omega)]
                cases ft <;> rfl
              have hgo : ∀ h2, MVN h2 → h2.2.2 71 = mo s → h2.2.2 72 = ar 456 (hc_u (hc_u A1 (12 + 2 * u) (cs.mk u - pd)) (12 + 2 * v) (cs.mk v + pd)) → Fr [72, 77, 78, 79] h h2 → hc_wp (d + 6) mX10_pay 186 [xR 71, xI (u : Int), xI (v : Int), xI p, xI g, xI (cs.mk u), xI pd, xI rs] [xI tl, xI (cs.mk u - pd), xI (12 + 2 * (u : Int)), xR 72] h2 Q := by
                intro h2 G9 G71 G72 GF
                refine e_isub rfl (by omega) ?_
                refine e_iastE (p := 12 + 2 * u) rfl G72 ⟨by omega, by omega⟩ ?_
                refine wp_go rfl rfl ?_
                refine wp_ret rfl rfl ?_
                have RA4 : RA (hc_u (hc_u (hc_u A1 (12 + 2 * u) (cs.mk u - pd)) (12 + 2 * v) (cs.mk v + pd)) (12 + 2 * u) (cs.mk u - pd - tl)) (kepS cs (hc_u (hc_u (hc_u cs.mk u (cs.mk u - pd)) v (cs.mk v + pd)) u (cs.mk u - pd - tl))) e := RA.um (p := u) RA3 (by omega)
                have eM : hc_u (hc_u (hc_u cs.mk u (cs.mk u - pd)) v (cs.mk v + pd)) u (cs.mk u - pd - tl) = hc_u (hc_u cs.mk u (cs.mk u - (pd + tl))) v (hc_u cs.mk u (cs.mk u - (pd + tl)) v + pd) := by
                  funext j
                  unfold hc_u
                  repeat' split
                  all_goals first | rfl | omega
                rw [eM] at RA4
                exact kt (by omega) (by omega) (by omega) (by omega) pd tl hpd (by rw [show Int.toNat (u : Int) = u from rfl, ← hrs, if_neg hrs0]; exact htl) _ _ rfl RA4 G9.w72 (GF.wr rfl)
              have hSUM : ∀ h2, h2.2.2 71 = mo s → h2.2.2 72 = ar 456 (hc_u (hc_u A1 (12 + 2 * u) (cs.mk u - pd)) (12 + 2 * v) (cs.mk v + pd)) → h2.2.2 74 = ar 2720 T → h2.2.2 77 = ar 7 (hc_u (hc_u (hc_u (hc_u (hc_u nm 0 (u : Int)) 1 (cs.mk u)) 2 cs.dy) 3 pd) 4 rs) → h2.2.2 78 = arL 330 vals → h2.2.2 79 = arB 330 tr → Fr [72, 77, 78, 79] h h2 → hc_wp (d + 5) mX10_sumOf 0 [xR 71, xI cs.ru, xI 0, xI (cs.mk u - pd), xI 1, none] [] h2 (fun z h3 => hc_wp (d + 6) mX10_pay 186 [xR 71, xI (u : Int), xI (v : Int), xI p, xI g, xI (cs.mk u), xI pd, xI rs] (z ++ [xI (cs.mk u - pd), xI (12 + 2 * (u : Int)), xR 72]) h3 Q) := by
                intro h2 G71 G72 G74 G77 G78 G79 GF
                rcases hT with ⟨z1, z2, z3⟩ | ⟨n, nc, z1, z2, z3, z4, z5, z6⟩
                · refine c_sumOfN z1 ?_
                  have e1 : tl = 1 := by rw [← etl, z2]; rfl
                  have := hgo h2 ⟨⟨_, hbn, G77⟩, ⟨vals, G78⟩, ⟨tr, G79⟩⟩ G71 G72 GF
                  rw [e1] at this
                  exact this
                · rw [z1]
                  refine c_sumOf (lw := 10) (g := ft) (nm := (hc_u (hc_u (hc_u (hc_u (hc_u nm 0 (u : Int)) 1 (cs.mk u)) 2 cs.dy) 3 pd) 4 rs)) (Or.inl rfl) z2 hbn (by omega) G71 G74 G77 G78 G79 z3 z4 z5 rfl (fun h3 F3 hv3 => ?_)
                  rw [etl]
                  exact hgo h3 ⟨⟨_, hbn, (F3.2.2 77 rfl).trans G77⟩, hv3⟩ ((F3.2.2 71 rfl).trans G71) ((F3.2.2 72 rfl).trans G72) (GF.tr (Fr.mono F3 (nin_sub rfl)) (fun _ z => z))
              have G77 := (F1.2.2 77 rfl).trans H77
              refine wp_go rfl rfl ?_
              refine e_get rfl ((F1.2.2 71 rfl).trans H71) rfl rfl ?_
              refine wp_go rfl rfl ?_
              refine wp_go rfl rfl ?_
              refine e_iastE (p := 0) rfl G77 ⟨by omega, by omega⟩ ?_
              refine wp_go rfl rfl ?_
              refine e_get rfl ((F1.2.2 71 rfl).trans H71) rfl rfl ?_
              refine wp_go rfl rfl ?_
              refine wp_go rfl rfl ?_
              refine e_iastE (p := 1) rfl rfl ⟨by omega, by omega⟩ ?_
              refine wp_go rfl rfl ?_
              refine e_get rfl ((F1.2.2 71 rfl).trans H71) rfl rfl ?_
              refine wp_go rfl rfl ?_
              refine wp_go rfl rfl ?_
              refine e_get rfl ((F1.2.2 71 rfl).trans H71) rfl rfl ?_
              refine wp_go rfl rfl ?_
              refine e_aldE (p := 1) rfl rfl rfl ⟨by omega, by omega⟩ ?_
              rw [show hc_u (hc_u A1 (12 + 2 * u) (cs.mk u - pd)) (12 + 2 * v) (cs.mk v + pd) 1 = cs.dy from RA3.1.2.1]
              refine e_iastE (p := 2) rfl rfl ⟨by omega, by omega⟩ ?_
              refine wp_go rfl rfl ?_
              refine e_get rfl ((F1.2.2 71 rfl).trans H71) rfl rfl ?_
              refine wp_go rfl rfl ?_
              refine wp_go rfl rfl ?_
              refine e_iastE (p := 3) rfl rfl ⟨by omega, by omega⟩ ?_
              refine wp_go rfl rfl ?_
              refine e_get rfl ((F1.2.2 71 rfl).trans H71) rfl rfl ?_
              refine wp_go rfl rfl ?_
              refine wp_go rfl rfl ?_
              refine e_iastE (p := 4) rfl rfl ⟨by omega, by omega⟩ ?_
              refine wp_go rfl rfl ?_
              refine e_get rfl ((F1.2.2 71 rfl).trans H71) rfl rfl ?_
              refine wp_go rfl rfl ?_
              refine wp_go rfl rfl ?_
              refine wp_go rfl rfl ?_
              refine e_imul rfl (by omega) ?_
              refine e_iadd rfl (by omega) ?_
              refine wp_go rfl rfl ?_
              refine e_aldE (p := 12 + 2 * u) rfl rfl rfl ⟨by omega, by omega⟩ ?_
              rw [show hc_u (hc_u A1 (12 + 2 * u) (cs.mk u - pd)) (12 + 2 * v) (cs.mk v + pd) (12 + 2 * u) = cs.mk u - pd from (hu_n (by omega)).trans hu_s]
              refine wp_go rfl rfl ?_
              refine wp_go rfl rfl ?_
              refine e_get rfl ((F1.2.2 71 rfl).trans H71) rfl rfl ?_
              refine wp_go rfl rfl ?_
              refine e_aldE (p := 6) rfl rfl rfl ⟨by omega, by omega⟩ ?_
              rw [show hc_u (hc_u A1 (12 + 2 * u) (cs.mk u - pd)) (12 + 2 * v) (cs.mk v + pd) 6 = cs.ru from RA3.1.2.2.2.2.2.2.1]
              refine wp_go rfl rfl ?_
              refine wp_go rfl rfl ?_
              refine wp_go rfl rfl ?_
              refine e_isub rfl (by omega) ?_
              refine wp_go rfl rfl ?_
              refine wp_cv rfl rfl rfl ((F1.2.2 71 rfl).trans H71) rfl rfl rfl ?_
              exact hSUM _ ((F1.2.2 71 rfl).trans H71) rfl ((F1.2.2 74 rfl).trans H74) rfl ((F1.2.2 78 rfl).trans H78) ((F1.2.2 79 rfl).trans H79) (((((((Fr.mono F1 (nin_sub rfl)).wr rfl).wr rfl).wr rfl).wr rfl).wr rfl).wr rfl |>.wr rfl)
            · skip
              refine wp_go rfl rfl ?_
              refine wp_ret rfl rfl ?_
              have eM : hc_u (hc_u cs.mk u (cs.mk u - pd)) v (cs.mk v + pd) = hc_u (hc_u cs.mk u (cs.mk u - (pd + 0))) v (hc_u cs.mk u (cs.mk u - (pd + 0)) v + pd) := by
                funext j
                unfold hc_u
                repeat' split
                all_goals first | rfl | omega
              rw [eM] at RA3
              exact kt (by omega) (by omega) (by omega) (by omega) pd 0 hpd (by rw [show Int.toNat (u : Int) = u from rfl, ← hrs, if_pos (by omega)]) _ _ rfl RA3 (MVN.fr hN (((Fr.mono F1 (nin_sub rfl)).wr rfl).wr rfl : Fr [71, 72] h _) rfl) (((Fr.mono F1 (nin_sub rfl)).wr rfl).wr rfl)
          · skip
            refine wp_go rfl rfl ?_
            refine wp_go rfl rfl ?_
            refine wp_ret rfl rfl ?_
            exact kf (by omega)
        · skip
          refine wp_go rfl rfl ?_
          refine wp_go rfl rfl ?_
          refine wp_ret rfl rfl ?_
          exact kf (by omega)
    · skip
      refine wp_go rfl rfl ?_
      refine wp_go rfl rfl ?_
      refine wp_ret rfl rfl ?_
      exact kf (by omega)
  · skip
    refine wp_go rfl rfl ?_
    refine wp_go rfl rfl ?_
    refine wp_ret rfl rfl ?_
    exact kf (by omega)
