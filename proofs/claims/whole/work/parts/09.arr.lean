/-! arrays -/
theorem hc_cl {z : Int32} {x : Int} (h : z.toInt = x) : z.toNatClampNeg = x.toNat := by
  rw [← h]
  rfl
theorem hc_vin {z : Int32} {x : Int} {n : Nat} (h : z.toInt = x) (h1 : 0 ≤ x) (h2 : x < (n : Int)) : vp_in z n := vp_in_iff.mpr ⟨by rw [h]; exact h1, by rw [h]; exact h2⟩
theorem hc_nlt {z : Int32} {x : Int} (h : z.toInt = x) (h1 : 0 ≤ x) : ¬ z < 0 := by
  rw [Int32.lt_iff_toInt_lt, h]
  show ¬ x < 0
  omega
section HA
variable {p : Program} {l : Launch} {e : Env} {R : Room} {s : State} {m : MethodId} {args : Array Value} {below : List Frame} {meth : Method} {c : Code} {H : Heap} {locs : List Loc} {cells slots : Nat} {Q : State → Prop}
variable {D : va_G} {cA : Nat → ClassId} {base b0 : Nat} {adK adV : Nat → Nat} {sL : Nat} {xs : Nat → Int32}
variable {L st L' st' : List hc_V} {h h' : hc_H} {ls : Array Slot} {stk : List Value} {nL pc pc' nx i : Nat}
theorem hs_newa {mi : hc_M} {d t : Nat} {at_ : ArrayType} {ty : FieldType} (hC : hc_C D cA base b0 adK adV sL xs mi p s m args meth c R d) (hdg : decode mi.2.1 pc = .ok (.newarray at_, 2)) (hnx : nx = pc + 2) (hty : newarray.typeOf at_ = ty) (hw : Cond.arrayClass ty ∈ lw_tbl.filter goodWord) (hcb : componentBytes ty ≤ 8)
    (mk : Nat → vp_A) (hmk : ∀ (N : Nat) (k : ClassId), vp_cell k (mk N) = arrV k N (fun _ => defaultValue ty)) (hcr : ∀ N : Nat, hc_cr (hc_ad base b0 adK) cA (.inl (t, N, .inl (fun _ => 0))) (.inl (cA t, mk N))) (htt : (hc_tys cA)[t]? = some (cA t, ty)) (hne : ∀ C, ty ≠ .object C)
    (hk : hc_newa t nx L st h = some (.inr (.inl (pc', L', st', h')))) (hrm : cells + (h'.1 - h.1) ≤ R.cells ∧ slots + (h'.2.1 - h.2.1) ≤ R.slots) (hat : hc_at D cA base b0 adK sL xs s nL L st h ls stk H locs cells) (kk : ∀ (ls : Array Slot) (stk : List Value) (H : Heap) (locs : List Loc), hc_at D cA base b0 adK sL xs s nL L' st' h' ls stk H locs (cells + (h'.1 - h.1)) → W p l e R s m args below meth c H locs (cells + (h'.1 - h.1)) (slots + (h'.2.1 - h.2.1)) Q (F0 m pc' ls stk)) : W p l e R s m args below meth c H locs cells slots Q (F0 m pc ls stk) := by
  subst hnx
  obtain ⟨hx, hb, hml, hown, hts, hX, -, hini⟩ := hC
  unfold hc_newa at hk
  split at hk
  next n st1 =>
    split at hk
    next hn =>
      obtain ⟨h1, h2, ⟨cw, hcw⟩, h4, h5⟩ := hat
      obtain ⟨w1, ws, rfl, ⟨z, rfl, hz⟩, hsr⟩ := hc_sr_cons h2
      have hh : h' = hc_al h n.toNat (.inl (t, n.toNat, .inl (fun _ => 0))) := by
        simp only [hc_go, Option.some.injEq, Sum.inr.injEq, Sum.inl.injEq, Prod.mk.injEq] at hk
        exact hk.2.2.2.symm
      have hr1 : cells + 1 ≤ R.cells := by have := hrm.1; rw [hh] at this; simp only [hc_al] at this; omega
      have hr2 : slots + n.toNat ≤ R.slots := by have := hrm.2; rw [hh] at this; simp only [hc_al] at this; omega
      refine hs_al (n := n.toNat) (E' := .inl (t, n.toNat, .inl (fun _ => 0))) (e' := .inl (cA t, mk n.toNat)) hcw (hcr _) hsr hk (fun k2 => ?_) ⟨h1, h2, ⟨cw, hcw⟩, h4, h5⟩ ‹_›
      have hby : n.toNat * componentBytes ty ≤ 536870912 := Nat.le_trans (Nat.mul_le_mul (show n.toNat ≤ 100000 by omega) hcb) (by decide)
      refine va_newa (ty := ty) (a0 := mk n.toNat) (N' := n.toNat) hx hb (by rw [hty]; exact hc_htsF (Z := []) hts _ hw) hty hX.1 hcw.2.2.2.1 (hc_ws_D cw base) (hc_S0 h4) (fun q hq => by have := hX.2.1.2.2.1; have := h4.1; omega) (fun k => hmk _ k) (hc_nlt hz hn.1) (hc_cl hz) hby hr1 hr2 hdg (fun q cA' H1 hK' hP hD hS => ?_)
      have e1 : va_RA s cA' ty := (hK'.2 (hc_tys cA).length (cA', ty) (by simp)).2
      have e2 : va_RA s (cA t) ty := (hX.1.2 t _ htt).2
      have : cA' = cA t := by
        cases ty <;> first | exact Option.some.inj (e1.symm.trans e2) | exact absurd rfl (hne _)
      subst this
      exact k2 q H1 hP hD hS
    next => cases hk
  next => cases hk
theorem hs_newr {mi : hc_M} {d idx : Nat} (hC : hc_C D cA base b0 adK adV sL xs mi p s m args meth c R d) (hdg : decode mi.2.1 pc = .ok (.anewarray idx, 3)) (hnx : nx = pc + 3) {w : Nat} (hf : hc_w w (.classLink mi.1.cls idx "CathedralCoin$Text") = true)
    (hk : hc_newr nx L st h = some (.inr (.inl (pc', L', st', h')))) (hrm : cells + (h'.1 - h.1) ≤ R.cells ∧ slots + (h'.2.1 - h.2.1) ≤ R.slots) (hat : hc_at D cA base b0 adK sL xs s nL L st h ls stk H locs cells) (kk : ∀ (ls : Array Slot) (stk : List Value) (H : Heap) (locs : List Loc), hc_at D cA base b0 adK sL xs s nL L' st' h' ls stk H locs (cells + (h'.1 - h.1)) → W p l e R s m args below meth c H locs (cells + (h'.1 - h.1)) (slots + (h'.2.1 - h.2.1)) Q (F0 m pc' ls stk)) : W p l e R s m args below meth c H locs cells slots Q (F0 m pc ls stk) := by
  subst hnx
  obtain ⟨hx, hb, hml, hown, hts, hX, -, hini⟩ := hC
  unfold hc_newr at hk
  split at hk
  next n st1 =>
    split at hk
    next hn =>
      obtain ⟨h1, h2, ⟨cw, hcw⟩, h4, h5⟩ := hat
      obtain ⟨w1, ws, rfl, ⟨z, rfl, hz⟩, hsr⟩ := hc_sr_cons h2
      have hh : h' = hc_al h n.toNat (.inl (3, n.toNat, .inr (fun _ => none))) := by
        simp only [hc_go, Option.some.injEq, Sum.inr.injEq, Sum.inl.injEq, Prod.mk.injEq] at hk
        exact hk.2.2.2.symm
      have hr1 : cells + 1 ≤ R.cells := by have := hrm.1; rw [hh] at this; simp only [hc_al] at this; omega
      have hr2 : slots + n.toNat ≤ R.slots := by have := hrm.2; rw [hh] at this; simp only [hc_al] at this; omega
      refine hs_al (n := n.toNat) (E' := .inl (3, n.toNat, .inr (fun _ => none))) (e' := .inl (cA 3, n.toNat, .inr (.inr (.inr (.inr (fun _ => none)))))) hcw ⟨rfl, rfl⟩ hsr hk (fun k2 => ?_) ⟨h1, h2, ⟨cw, hcw⟩, h4, h5⟩ ‹_›
      refine va_newq (N' := n.toNat) hx hb hown (hts _ (hc_wmem hf).1 (hc_wmem hf).2) hX.2.2.2.2.2.2.1 hX.1 hcw.2.2.2.1 (hc_ws_D cw base) (hc_S0 h4) (fun q hq => by have := hX.2.1.2.2.1; have := h4.1; omega) (hc_nlt hz hn.1) (hc_cl hz) (by omega) hr1 hr2 hdg (fun q cA' H1 hK' hP hD hS => ?_)
      obtain ⟨j1, q1, a1, a2, a3, a4⟩ := (hK'.2 (hc_tys cA).length (cA', .object "CathedralCoin$Text") (by simp)).2
      obtain ⟨j2, q2, b1, b2, b3, b4⟩ := (hX.1.2 3 (cA 3, .object "CathedralCoin$Text") rfl).2
      have : cA' = cA 3 := Option.some.inj (a4.symm.trans b4)
      subst this
      exact k2 q H1 hP hD hS
    next => cases hk
  next => cases hk
theorem hc_nT {n : Nat} (h : (n : Int) ≤ 2147483647) : (Int32.ofNat n).toInt = (n : Int) := nI_toInt (by omega)
/-- the script is at 0 -/
theorem hc_at0 {cw : List va_E} {r n : Nat} {f : (Nat → Int) ⊕ (Nat → Option Nat)} (hcw : hc_cws D cA base (hc_ad base b0 adK) sL xs h H cw) (hcell : h.2.2 r = .inl (9, n, f)) : r = 0 ∧ n = sL ∧ f = .inl (fun j => (xs j).toInt) := by
  obtain ⟨c1, c2, c3, c4, c5, c6⟩ := hcw
  rcases Nat.lt_or_ge r 22 with q | q
  · have h1 := hcell.symm.trans (c6 r q)
    cases r with
    | zero =>
      simp only [hc_sp, Sum.inl.injEq, Prod.mk.injEq] at h1
      exact ⟨rfl, h1.2.1, h1.2.2⟩
    | succ r => simp [hc_sp] at h1
  · rcases Nat.lt_or_ge r h.1 with q2 | q2
    · have h3 : r - 22 < cw.length := by omega
      have := c3 (r - 22) _ (List.getElem?_eq_getElem h3)
      rw [show r - 22 + 22 = r by omega, hcell] at this
      cases f <;> simp [hc_cr] at this
    · exact absurd (hcell.symm.trans (c5 r q2)) (by simp [hc_dead])
theorem hs_len {mi : hc_M} {d : Nat} (hC : hc_C D cA base b0 adK adV sL xs mi p s m args meth c R d) (hdg : decode mi.2.1 pc = .ok (.arraylength, 1)) (hnx : nx = pc + 1) (hk : hc_len nx L st h = some (.inr (.inl (pc', L', st', h')))) (hat : hc_at D cA base b0 adK sL xs s nL L st h ls stk H locs cells) (kk : ∀ (ls : Array Slot) (stk : List Value) (H : Heap) (locs : List Loc), hc_at D cA base b0 adK sL xs s nL L' st' h' ls stk H locs (cells + (h'.1 - h.1)) → W p l e R s m args below meth c H locs (cells + (h'.1 - h.1)) (slots + (h'.2.1 - h.2.1)) Q (F0 m pc' ls stk)) : W p l e R s m args below meth c H locs cells slots Q (F0 m pc ls stk) := by
  subst hnx
  obtain ⟨hx, hb, hml, hown, hts, hX, -, hini⟩ := hC
  unfold hc_len hc_p at hk
  split at hk
  next r st1 =>
    split at hk
    next t n f hcell =>
      cases h8 : Nat.beq t 8 with
      | true => rw [h8] at hk; cases hk
      | false =>
        rw [h8, cond_false] at hk
        split at hk
        next hrg =>
          obtain ⟨h1, h2, ⟨cw, hcw⟩, h4, h5⟩ := hat
          obtain ⟨w1, ws, rfl, hw1, hsr⟩ := hc_sr_cons h2
          cases hc_vr_ref hw1
          have hv := hc_nT hrg.2
          refine hs_to (st1 := xI (n : Int) :: st1) (stk1 := .int (Int32.ofNat n) :: ws) ⟨hc_mkI hv, hsr⟩ hk (fun k2 => ?_) ⟨h1, h2, ⟨cw, hcw⟩, h4, h5⟩ ‹_›
          by_cases h9 : t = 9
          · subst h9
            obtain ⟨rfl, rfl, -⟩ := hc_at0 hcw hcell
            have e0 : (hc_ad base b0 adK) 0 = b0 := rfl
            rw [e0]
            exact va_slen hx hb hX.2.1.1 (Nat.lt_of_lt_of_le hX.2.1.2.1 hX.2.1.2.2.1) (by have := hX.2.1.2.1; show ¬ base ≤ b0; omega) h4 hdg k2
          · have h8' : t ≠ 8 := fun q => by subst q; simp at h8
            have hns : ∀ k, (.inl (t, n, f) : hc_E) ≠ hc_sp sL xs k := by
              intro k
              cases k <;> simp [hc_sp] <;> omega
            obtain ⟨ce, hce, hcr, hr1, hr2⟩ := hc_cell hcw hcell hc_ar_d hns
            match f, hcr with
            | .inl f, hcr =>
              rcases hcr with ⟨rfl, g, rfl, -⟩ | ⟨rfl, g, rfl, -⟩ | ⟨rfl, g, rfl, -⟩
              · exact va_alen hx hb hX.1 hcw.2.2.2.1 (r - 22) 0 hce rfl rfl hdg k2
              · exact va_alen hx hb hX.1 hcw.2.2.2.1 (r - 22) 1 hce rfl rfl hdg k2
              · exact va_alen hx hb hX.1 hcw.2.2.2.1 (r - 22) 2 hce rfl rfl hdg k2
            | .inr f, ⟨_, hcr⟩ =>
              subst hcr
              exact va_alen hx hb hX.1 hcw.2.2.2.1 (r - 22) 3 hce rfl rfl hdg k2
        next => cases hk
    next => cases hk
  next => cases hk
theorem hs_ald {mi : hc_M} {d : Nat} (hC : hc_C D cA base b0 adK adV sL xs mi p s m args meth c R d) (hdg : decode mi.2.1 pc = .ok (.iaload, 1)) (hnx : nx = pc + 1) (hk : hc_ald nx L st h = some (.inr (.inl (pc', L', st', h')))) (hat : hc_at D cA base b0 adK sL xs s nL L st h ls stk H locs cells) (kk : ∀ (ls : Array Slot) (stk : List Value) (H : Heap) (locs : List Loc), hc_at D cA base b0 adK sL xs s nL L' st' h' ls stk H locs (cells + (h'.1 - h.1)) → W p l e R s m args below meth c H locs (cells + (h'.1 - h.1)) (slots + (h'.2.1 - h.2.1)) Q (F0 m pc' ls stk)) : W p l e R s m args below meth c H locs cells slots Q (F0 m pc ls stk) := by
  subst hnx
  obtain ⟨hx, hb, hml, hown, hts, hX, -, hini⟩ := hC
  unfold hc_ald at hk
  split at hk
  next i r st1 =>
    split at hk
    next t n f hcell =>
      cases h8 : (Nat.beq t 0 || Nat.beq t 9) with
      | false => rw [h8] at hk; cases hk
      | true =>
        rw [h8, cond_true] at hk
        split at hk
        next hrg =>
          obtain ⟨h1, h2, ⟨cw, hcw⟩, h4, h5⟩ := hat
          obtain ⟨w0, ws0, rfl, ⟨z, rfl, hz⟩, hsr0⟩ := hc_sr_cons h2
          obtain ⟨w1, ws, rfl, hw1, hsr⟩ := hc_sr_cons hsr0
          cases hc_vr_ref hw1
          have hin := hc_vin hz hrg.1 hrg.2
          simp only [Bool.or_eq_true] at h8
          rcases h8 with q | q
          · have ht : t = 0 := Nat.eq_of_beq_eq_true q
            subst ht
            obtain ⟨ce, hce, hcr, hr1, hr2⟩ := hc_cell hcw hcell hc_ar_d (hc_ar_s (by decide))
            rcases hcr with ⟨-, g, rfl, hg⟩ | ⟨q, -⟩ | ⟨q, -⟩
            · refine hs_to (st1 := xI (f i.toNat) :: st1) (stk1 := .int (g z.toNatClampNeg) :: ws) ⟨hc_mkI (by rw [hg, hc_cl hz]), hsr⟩ hk (fun k2 => ?_) ⟨h1, h2, ⟨cw, hcw⟩, h4, h5⟩ ‹_›
              exact va_iald hx hb hX.1 hcw.2.2.2.1 (r - 22) 0 hce rfl hin hdg k2
            · cases q
            · cases q
          · have ht : t = 9 := Nat.eq_of_beq_eq_true q
            subst ht
            obtain ⟨rfl, rfl, hf⟩ := hc_at0 hcw hcell
            cases hf
            refine hs_to (st1 := xI ((xs i.toNat).toInt) :: st1) (stk1 := .int (xs z.toNatClampNeg) :: ws) ⟨hc_mkI (by rw [hc_cl hz]), hsr⟩ hk (fun k2 => ?_) ⟨h1, h2, ⟨cw, hcw⟩, h4, h5⟩ ‹_›
            have e0 : (hc_ad base b0 adK) 0 = b0 := rfl
            rw [e0]
            exact va_sld hx hb hX.2.1.1 (Nat.lt_of_lt_of_le hX.2.1.2.1 hX.2.1.2.2.1) (by have := hX.2.1.2.1; show ¬ base ≤ b0; omega) h4 hin hdg k2
        next => cases hk
    next => cases hk
  next => cases hk
theorem hs_lald {mi : hc_M} {d : Nat} (hC : hc_C D cA base b0 adK adV sL xs mi p s m args meth c R d) (hdg : decode mi.2.1 pc = .ok (.laload, 1)) (hnx : nx = pc + 1) (hk : hc_lald nx L st h = some (.inr (.inl (pc', L', st', h')))) (hat : hc_at D cA base b0 adK sL xs s nL L st h ls stk H locs cells) (kk : ∀ (ls : Array Slot) (stk : List Value) (H : Heap) (locs : List Loc), hc_at D cA base b0 adK sL xs s nL L' st' h' ls stk H locs (cells + (h'.1 - h.1)) → W p l e R s m args below meth c H locs (cells + (h'.1 - h.1)) (slots + (h'.2.1 - h.2.1)) Q (F0 m pc' ls stk)) : W p l e R s m args below meth c H locs cells slots Q (F0 m pc ls stk) := by
  subst hnx
  obtain ⟨hx, hb, hml, hown, hts, hX, -, hini⟩ := hC
  unfold hc_lald at hk
  split at hk
  next i r st1 =>
    split at hk
    next t n f hcell =>
      cases h8 : (Nat.beq t 1) with
      | false => rw [h8] at hk; cases hk
      | true =>
        rw [h8, cond_true] at hk
        split at hk
        next hrg =>
          obtain ⟨h1, h2, ⟨cw, hcw⟩, h4, h5⟩ := hat
          obtain ⟨w0, ws0, rfl, ⟨z, rfl, hz⟩, hsr0⟩ := hc_sr_cons h2
          obtain ⟨w1, ws, rfl, hw1, hsr⟩ := hc_sr_cons hsr0
          cases hc_vr_ref hw1
          have hin := hc_vin hz hrg.1 hrg.2
          have ht : t = 1 := Nat.eq_of_beq_eq_true h8
          subst ht
          obtain ⟨ce, hce, hcr, hr1, hr2⟩ := hc_cell hcw hcell hc_ar_d (hc_ar_s (by decide))
          rcases hcr with ⟨q, -⟩ | ⟨-, g, rfl, hg⟩ | ⟨q, -⟩
          · cases q
          · refine hs_to (st1 := xL (f i.toNat) :: st1) (stk1 := .long (g z.toNatClampNeg) :: ws) ⟨hc_mkL (by rw [hg, hc_cl hz]), hsr⟩ hk (fun k2 => ?_) ⟨h1, h2, ⟨cw, hcw⟩, h4, h5⟩ ‹_›
            exact va_lald hx hb hX.1 hcw.2.2.2.1 (r - 22) 1 hce rfl hin hdg k2
          · cases q
        next => cases hk
    next => cases hk
  next => cases hk
theorem hs_bald {mi : hc_M} {d : Nat} (hC : hc_C D cA base b0 adK adV sL xs mi p s m args meth c R d) (hdg : decode mi.2.1 pc = .ok (.baload, 1)) (hnx : nx = pc + 1) (hk : hc_bald nx L st h = some (.inr (.inl (pc', L', st', h')))) (hat : hc_at D cA base b0 adK sL xs s nL L st h ls stk H locs cells) (kk : ∀ (ls : Array Slot) (stk : List Value) (H : Heap) (locs : List Loc), hc_at D cA base b0 adK sL xs s nL L' st' h' ls stk H locs (cells + (h'.1 - h.1)) → W p l e R s m args below meth c H locs (cells + (h'.1 - h.1)) (slots + (h'.2.1 - h.2.1)) Q (F0 m pc' ls stk)) : W p l e R s m args below meth c H locs cells slots Q (F0 m pc ls stk) := by
  subst hnx
  obtain ⟨hx, hb, hml, hown, hts, hX, -, hini⟩ := hC
  unfold hc_bald at hk
  split at hk
  next i r st1 =>
    split at hk
    next t n f hcell =>
      cases h8 : (Nat.beq t 2) with
      | false => rw [h8] at hk; cases hk
      | true =>
        rw [h8, cond_true] at hk
        split at hk
        next hrg =>
          obtain ⟨h1, h2, ⟨cw, hcw⟩, h4, h5⟩ := hat
          obtain ⟨w0, ws0, rfl, ⟨z, rfl, hz⟩, hsr0⟩ := hc_sr_cons h2
          obtain ⟨w1, ws, rfl, hw1, hsr⟩ := hc_sr_cons hsr0
          cases hc_vr_ref hw1
          have hin := hc_vin hz hrg.1 hrg.2
          have ht : t = 2 := Nat.eq_of_beq_eq_true h8
          subst ht
          obtain ⟨ce, hce, hcr, hr1, hr2⟩ := hc_cell hcw hcell hc_ar_d (hc_ar_s (by decide))
          rcases hcr with ⟨q, -⟩ | ⟨q, -⟩ | ⟨-, g, rfl, hg⟩
          · cases q
          · cases q
          · refine hs_to (st1 := xI (f i.toNat) :: st1) (stk1 := .int (g z.toNatClampNeg) :: ws) ⟨hc_mkI (by rw [hg, hc_cl hz]), hsr⟩ hk (fun k2 => ?_) ⟨h1, h2, ⟨cw, hcw⟩, h4, h5⟩ ‹_›
            exact va_zald hx hb hX.1 hcw.2.2.2.1 (r - 22) 2 hce rfl hin hdg k2
        next => cases hk
    next => cases hk
  next => cases hk
theorem hs_aald {mi : hc_M} {d : Nat} (hC : hc_C D cA base b0 adK adV sL xs mi p s m args meth c R d) (hdg : decode mi.2.1 pc = .ok (.aaload, 1)) (hnx : nx = pc + 1) (hk : hc_aald nx L st h = some (.inr (.inl (pc', L', st', h')))) (hat : hc_at D cA base b0 adK sL xs s nL L st h ls stk H locs cells) (kk : ∀ (ls : Array Slot) (stk : List Value) (H : Heap) (locs : List Loc), hc_at D cA base b0 adK sL xs s nL L' st' h' ls stk H locs (cells + (h'.1 - h.1)) → W p l e R s m args below meth c H locs (cells + (h'.1 - h.1)) (slots + (h'.2.1 - h.2.1)) Q (F0 m pc' ls stk)) : W p l e R s m args below meth c H locs cells slots Q (F0 m pc ls stk) := by
  subst hnx
  obtain ⟨hx, hb, hml, hown, hts, hX, -, hini⟩ := hC
  unfold hc_aald at hk
  split at hk
  next i r st1 =>
    split at hk
    next t n f hcell =>
      cases h8 : (Nat.beq t 3) with
      | false => rw [h8] at hk; cases hk
      | true =>
        rw [h8, cond_true] at hk
        split at hk
        next hrg =>
          obtain ⟨h1, h2, ⟨cw, hcw⟩, h4, h5⟩ := hat
          obtain ⟨w0, ws0, rfl, ⟨z, rfl, hz⟩, hsr0⟩ := hc_sr_cons h2
          obtain ⟨w1, ws, rfl, hw1, hsr⟩ := hc_sr_cons hsr0
          cases hc_vr_ref hw1
          have hin := hc_vin hz hrg.1 hrg.2
          have ht : t = 3 := Nat.eq_of_beq_eq_true h8
          subst ht
          obtain ⟨ce, hce, ⟨-, hcr⟩, hr1, hr2⟩ := hc_cell hcw hcell hc_ar_d (hc_ar_s (by decide))
          subst hcr
          refine hs_to (st1 := xQ (f i.toNat) :: st1) (stk1 := va_rf ((f z.toNatClampNeg).map (hc_ad base b0 adK)) :: ws) ⟨by rw [hc_cl hz]; exact rfl, hsr⟩ hk (fun k2 => ?_) ⟨h1, h2, ⟨cw, hcw⟩, h4, h5⟩ ‹_›
          exact va_aldq hx hb hX.1 hcw.2.2.2.1 (r - 22) 3 hce rfl hin hdg k2
        next => cases hk
    next => cases hk
  next => cases hk
end HA
