/-! the heap's instructions -/
theorem hc_inst : ∀ q ∈ vwCl, Cond.instantiable q.1 q.2.2 ∈ lw_tbl.filter goodWord ∧ Cond.initialized q.1 ∈ lw_tbl.filter goodWord := by decide +kernel
theorem hc_defs {ci : Nat} {C : String} {T : u_T} {N : Nat} {vs : List hc_V} (ad : Nat → Nat) (h : hc_gt vwCl ci = some (C, T, N)) (hv : hc_gt hc_D ci = some vs) : ∃ (ty : Nat → FieldType) (fs : List Value), (∀ k, k < N → parseFieldDescriptor (T k).2.2.1 = some (ty k)) ∧ (∀ j, j < N → defaultValue (ty j) = vp_V fs j) ∧ hc_sr ad vs fs ∧ vs.length = N := by
  match ci, h, hv with
  | 0, h, hv =>
    cases h
    cases hv
    refine ⟨_, [Value.null, Value.null, Value.null, Value.int 0], tyX0_ok, by decide, ?_, rfl⟩
    exact ⟨rfl, rfl, rfl, ⟨0, rfl, rfl⟩, trivial⟩
  | 1, h, hv =>
    cases h
    cases hv
    refine ⟨_, [Value.null, Value.null, Value.null, Value.null, Value.int 0], tyX1_ok, by decide, ?_, rfl⟩
    exact ⟨rfl, rfl, rfl, rfl, ⟨0, rfl, rfl⟩, trivial⟩
  | 2, h, hv =>
    cases h
    cases hv
    refine ⟨_, [Value.null, Value.null, Value.null, Value.null, Value.null, Value.null, Value.int 0], tyX2_ok, by decide, ?_, rfl⟩
    exact ⟨rfl, rfl, rfl, rfl, rfl, rfl, ⟨0, rfl, rfl⟩, trivial⟩
  | 3, h, hv =>
    cases h
    cases hv
    refine ⟨_, [Value.null, Value.int 0, Value.null, Value.int 0, Value.int 0, Value.null, Value.null, Value.int 0, Value.null, Value.int 0, Value.int 0, Value.int 0, Value.int 0, Value.int 0], tyX3_ok, by decide, ?_, rfl⟩
    exact ⟨rfl, ⟨0, rfl, rfl⟩, rfl, ⟨0, rfl, rfl⟩, ⟨0, rfl, rfl⟩, rfl, rfl, ⟨0, rfl, rfl⟩, rfl, ⟨0, rfl, rfl⟩, ⟨0, rfl, rfl⟩, ⟨0, rfl, rfl⟩, ⟨0, rfl, rfl⟩, ⟨0, rfl, rfl⟩, trivial⟩
  | 4, h, hv =>
    cases h
    cases hv
    refine ⟨_, [Value.null, Value.int 0, Value.int 0], tyX4_ok, by decide, ?_, rfl⟩
    exact ⟨rfl, ⟨0, rfl, rfl⟩, ⟨0, rfl, rfl⟩, trivial⟩
  | 5, h, hv =>
    cases h
    cases hv
    refine ⟨_, [Value.null, Value.null, Value.int 0, Value.null], tyX5_ok, by decide, ?_, rfl⟩
    exact ⟨rfl, rfl, ⟨0, rfl, rfl⟩, rfl, trivial⟩
  | 6, h, hv =>
    cases h
    cases hv
    refine ⟨_, [Value.null, Value.null, Value.null, Value.int 0, Value.null, Value.int 0, Value.int 0], tyX6_ok, by decide, ?_, rfl⟩
    exact ⟨rfl, rfl, rfl, ⟨0, rfl, rfl⟩, rfl, ⟨0, rfl, rfl⟩, ⟨0, rfl, rfl⟩, trivial⟩
  | 7, h, hv =>
    cases h
    cases hv
    refine ⟨_, [Value.null, Value.int 0, Value.null, Value.null, Value.int 0, Value.int 0, Value.int 0, Value.int 0, Value.null, Value.int 0, Value.int 0, Value.null, Value.null, Value.null, Value.int 0], tyX7_ok, by decide, ?_, rfl⟩
    exact ⟨rfl, ⟨0, rfl, rfl⟩, rfl, rfl, ⟨0, rfl, rfl⟩, ⟨0, rfl, rfl⟩, ⟨0, rfl, rfl⟩, ⟨0, rfl, rfl⟩, rfl, ⟨0, rfl, rfl⟩, ⟨0, rfl, rfl⟩, rfl, rfl, rfl, ⟨0, rfl, rfl⟩, trivial⟩
  | 8, h, hv =>
    cases h
    cases hv
    refine ⟨_, [Value.null, Value.null, Value.int 0], tyX8_ok, by decide, ?_, rfl⟩
    exact ⟨rfl, rfl, ⟨0, rfl, rfl⟩, trivial⟩
  | 9, h, hv =>
    cases h
    cases hv
    refine ⟨_, [Value.null, Value.null, Value.null, Value.null, Value.null, Value.null, Value.null, Value.int 0], tyX9_ok, by decide, ?_, rfl⟩
    exact ⟨rfl, rfl, rfl, rfl, rfl, rfl, rfl, ⟨0, rfl, rfl⟩, trivial⟩
  | 10, h, hv =>
    cases h
    cases hv
    refine ⟨_, [Value.null, Value.null, Value.null, Value.null, Value.int 0, Value.int 0, Value.int 0, Value.int 0, Value.int 0, Value.int 0, Value.int 0, Value.long 0, Value.int 0, Value.int 0, Value.int 0, Value.int 0, Value.null, Value.int 0, Value.int 0, Value.int 0, Value.int 0, Value.int 0, Value.int 0, Value.null, Value.null, Value.null, Value.null, Value.null, Value.null, Value.null, Value.int 0, Value.null, Value.null, Value.null, Value.null, Value.null, Value.null, Value.null], tyX10_ok, by decide, ?_, rfl⟩
    exact ⟨rfl, rfl, rfl, rfl, ⟨0, rfl, rfl⟩, ⟨0, rfl, rfl⟩, ⟨0, rfl, rfl⟩, ⟨0, rfl, rfl⟩, ⟨0, rfl, rfl⟩, ⟨0, rfl, rfl⟩, ⟨0, rfl, rfl⟩, ⟨0, rfl, rfl⟩, ⟨0, rfl, rfl⟩, ⟨0, rfl, rfl⟩, ⟨0, rfl, rfl⟩, ⟨0, rfl, rfl⟩, rfl, ⟨0, rfl, rfl⟩, ⟨0, rfl, rfl⟩, ⟨0, rfl, rfl⟩, ⟨0, rfl, rfl⟩, ⟨0, rfl, rfl⟩, ⟨0, rfl, rfl⟩, rfl, rfl, rfl, rfl, rfl, rfl, rfl, ⟨0, rfl, rfl⟩, rfl, rfl, rfl, rfl, rfl, rfl, rfl, trivial⟩
  | n + 11, h, hv => simp [vwCl, hc_gt] at h
section HI
variable {p : Program} {l : Launch} {e : Env} {R : Room} {s : State} {m : MethodId} {args : Array Value} {below : List Frame} {meth : Method} {c : Code} {H : Heap} {locs : List Loc} {cells slots : Nat} {Q : State → Prop}
variable {D : va_G} {cA : Nat → ClassId} {base b0 : Nat} {adK adV : Nat → Nat} {sL : Nat} {xs : Nat → Int32}
variable {L st L' st' : List hc_V} {h h' : hc_H} {ls : Array Slot} {stk : List Value} {nL pc pc' nx i : Nat}
theorem hc_htsF {Z : List Cond} (h : ∀ w ∈ lw_tbl, goodWord w = true → w.before args s = true) : ∀ w ∈ lw_tbl.filter goodWord, w.before args s = true := fun w hw => h w (List.mem_filter.mp hw).1 (List.mem_filter.mp hw).2
theorem hc_vr_ref {ad : Nat → Nat} {r : Nat} {w : Value} (h : hc_vr ad (some (.inr (.inr (some r)))) w) : w = .ref (ad r) := h
theorem hs_getf {mi : hc_M} {d a b w v idx : Nat} (hC : hc_C D cA base b0 adK adV sL xs mi p s m args meth c R d) (hdg : decode mi.2.1 pc = .ok (.getfield idx, 3)) (hnx : nx = pc + 3) (hf : hc_okf mi.1.cls idx a b w v = true) (hk : hc_getf a b nx L st h = some (.inr (.inl (pc', L', st', h')))) (hat : hc_at D cA base b0 adK sL xs s nL L st h ls stk H locs cells) (kk : ∀ (ls : Array Slot) (stk : List Value) (H : Heap) (locs : List Loc), hc_at D cA base b0 adK sL xs s nL L' st' h' ls stk H locs (cells + (h'.1 - h.1)) → W p l e R s m args below meth c H locs (cells + (h'.1 - h.1)) (slots + (h'.2.1 - h.2.1)) Q (F0 m pc' ls stk)) : W p l e R s m args below meth c H locs cells slots Q (F0 m pc ls stk) := by
  subst hnx
  obtain ⟨hx, hb, hml, hown, hts, hX, -, -⟩ := hC
  unfold hc_getf at hk
  split at hk
  next r st1 =>
    split at hk
    next ci fs hcell =>
      cases hb1 : Nat.beq ci a with
      | false => rw [hb1] at hk; cases hk
      | true =>
        rw [hb1, cond_true] at hk
        have hca : ci = a := Nat.eq_of_beq_eq_true hb1
        subst hca
        split at hk
        next u hu =>
          unfold hc_okf at hf
          split at hf
          next C T N hcl =>
            simp only [Bool.and_eq_true, decide_eq_true_eq] at hf
            obtain ⟨hbN, ⟨hD, -⟩, hlw⟩ := hf
            have hbN : b < N := by simpa [Nat.blt_eq] using hbN
            obtain ⟨h1, h2, ⟨cw, hcw⟩, h4, h5⟩ := hat
            obtain ⟨w1, ws, rfl, hw1, hsr⟩ := hc_sr_cons h2
            cases hc_vr_ref hw1
            have hci := hc_cls_lt hcl
            obtain ⟨ce, hce, hcr, hr1, hr2⟩ := hc_cell hcw hcell (hc_ob_d hci) hc_ob_s
            obtain ⟨fs', rfl, hfs⟩ := hcr
            obtain ⟨wv, hwv, hvr⟩ := hc_sr_gt hfs hu
            have hcl' : vwCl[ci]? = some (C, T, N) := by rw [← hc_gt_eq]; exact hcl
            have hin := hc_uw _ (List.mem_of_getElem? hcl')
            refine hs_to (st1 := u :: st1) (stk1 := wv :: ws) ⟨hvr, hsr⟩ hk (fun kk => ?_) ⟨h1, h2, ⟨cw, hcw⟩, h4, h5⟩ ‹_›
            cases hm : Nat.beq (v % 2) 0 with
            | true =>
              rw [hm, cond_true] at hlw
              exact va_get (ref := C) hx hb (hc_htsF (Z := []) hts) hin hown hX.1 hcw.2.2.2.1 (r - 22) hce hcl' b hbN (hts _ (hc_wmem hlw).1 (hc_wmem hlw).2) (fun x hq => by rw [← hD]; exact hq) hwv hdg kk
            | false =>
              rw [hm, cond_false] at hlw
              exact va_getN (ref := C) hx hb (hc_htsF (Z := []) hts) hin hown hX.1 hcw.2.2.2.1 (r - 22) hce hcl' b hbN (va_Nw.use rfl (hX.2.2.2.1 _ (hc_wnmem hlw).1 (hc_wnmem hlw).2)) (fun x hq => by rw [← hD]; exact hq) hwv hdg kk
          next => cases hf
        next => cases hk
    next => cases hk
  next => cases hk
theorem hc_fits {t : Nat} {d : String} {v : hc_V} {w : Value} {ad : Nat → Nat} (h1 : hc_fk t d = true) (h2 : hc_fit t v = true) (h3 : hc_vr ad v w) : ∃ ty, parseFieldDescriptor d = some ty ∧ narrow ty w = w ∧ fits ty w = true := by
  unfold hc_fk at h1
  split at h1
  next hp =>
    have ht : t = 0 := Nat.eq_of_beq_eq_true h1
    subst ht
    match v, h2, h3 with
    | some (.inl x), _, h3 => obtain ⟨z, rfl, -⟩ := h3; exact ⟨_, hp, rfl, rfl⟩
    | some (.inr (.inl x)), h2, _ => simp [hc_fit] at h2
    | some (.inr (.inr x)), h2, _ => simp [hc_fit] at h2
  next hp =>
    have ht : t = 1 := Nat.eq_of_beq_eq_true h1
    subst ht
    match v, h2, h3 with
    | some (.inl x), h2, h3 =>
      obtain ⟨z, rfl, hz⟩ := h3
      simp [hc_fit] at h2
      have hz2 : z = 0 ∨ z = 1 := by
        rcases h2 with q | q
        · left; apply Int32.toInt_inj.mp; rw [hz, q]; rfl
        · right; apply Int32.toInt_inj.mp; rw [hz, q]; rfl
      rcases hz2 with rfl | rfl
      · exact ⟨_, hp, by decide, by decide⟩
      · exact ⟨_, hp, by decide, by decide⟩
    | some (.inr (.inl x)), h2, _ => simp [hc_fit] at h2
    | some (.inr (.inr x)), h2, _ => simp [hc_fit] at h2
  next hp =>
    have ht : t = 2 := Nat.eq_of_beq_eq_true h1
    subst ht
    match v, h2, h3 with
    | some (.inl x), h2, h3 => simp [hc_fit] at h2
    | some (.inr (.inl x)), h2, h3 => obtain ⟨z, rfl, -⟩ := h3; exact ⟨_, hp, rfl, rfl⟩
    | some (.inr (.inr x)), h2, _ => simp [hc_fit] at h2
  next hp =>
    have ht : t = 3 := Nat.eq_of_beq_eq_true h1
    subst ht
    match v, h2, h3 with
    | some (.inl x), h2, h3 => simp [hc_fit] at h2
    | some (.inr (.inl x)), h2, h3 => simp [hc_fit] at h2
    | some (.inr (.inr none)), h2, h3 => cases h3; exact ⟨_, hp, rfl, rfl⟩
    | some (.inr (.inr (some k))), h2, h3 => cases h3; exact ⟨_, hp, rfl, rfl⟩
  next hp =>
    have ht : t = 3 := Nat.eq_of_beq_eq_true h1
    subst ht
    match v, h2, h3 with
    | some (.inl x), h2, h3 => simp [hc_fit] at h2
    | some (.inr (.inl x)), h2, h3 => simp [hc_fit] at h2
    | some (.inr (.inr none)), h2, h3 => cases h3; exact ⟨_, hp, rfl, rfl⟩
    | some (.inr (.inr (some k))), h2, h3 => cases h3; exact ⟨_, hp, rfl, rfl⟩
  next => cases h1
theorem hs_putf {mi : hc_M} {d a b w v idx : Nat} (hC : hc_C D cA base b0 adK adV sL xs mi p s m args meth c R d) (hdg : decode mi.2.1 pc = .ok (.putfield idx, 3)) (hnx : nx = pc + 3) (hf : hc_okf mi.1.cls idx a b w v = true) (hfp : hc_okp mi.1.cls mi.2.2.2.2.1 a b v = true) (hk : hc_putf a b (v / 4) nx L st h = some (.inr (.inl (pc', L', st', h')))) (hat : hc_at D cA base b0 adK sL xs s nL L st h ls stk H locs cells) (kk : ∀ (ls : Array Slot) (stk : List Value) (H : Heap) (locs : List Loc), hc_at D cA base b0 adK sL xs s nL L' st' h' ls stk H locs (cells + (h'.1 - h.1)) → W p l e R s m args below meth c H locs (cells + (h'.1 - h.1)) (slots + (h'.2.1 - h.2.1)) Q (F0 m pc' ls stk)) : W p l e R s m args below meth c H locs cells slots Q (F0 m pc ls stk) := by
  subst hnx
  obtain ⟨hx, hb, hml, hown, hts, hX, -, hini⟩ := hC
  unfold hc_putf at hk
  split at hk
  next u r st1 =>
    split at hk
    next ci fs hcell =>
      cases hb1 : (Nat.beq ci a && hc_fit (v / 4) u && Nat.blt b fs.length) with
      | false => rw [hb1] at hk; cases hk
      | true =>
        rw [hb1, cond_true] at hk
        simp only [Bool.and_eq_true] at hb1
        obtain ⟨⟨hca, hfit⟩, hbl⟩ := hb1
        have hca : ci = a := Nat.eq_of_beq_eq_true hca
        subst hca
        unfold hc_okf at hf
        unfold hc_okp at hfp
        split at hf
        next C T N hcl =>
          rw [hcl] at hfp
          simp only [Bool.and_eq_true, decide_eq_true_eq] at hf
          obtain ⟨hbN, ⟨hD, hfk⟩, hlw⟩ := hf
          have hbN : b < N := by simpa [Nat.blt_eq] using hbN
          have hbl : b < fs.length := by simpa [Nat.blt_eq] using hbl
          obtain ⟨h1, h2, ⟨cw, hcw⟩, h4, h5⟩ := hat
          obtain ⟨w0, ws0, rfl, hw0, hsr0⟩ := hc_sr_cons h2
          obtain ⟨w1, ws, rfl, hw1, hsr⟩ := hc_sr_cons hsr0
          cases hc_vr_ref hw1
          have hci := hc_cls_lt hcl
          obtain ⟨ce, hce, hcr, hr1, hr2⟩ := hc_cell hcw hcell (hc_ob_d hci) hc_ob_s
          obtain ⟨fs', rfl, hfs⟩ := hcr
          have hlen := hc_sr_len hfs
          have hcl' : vwCl[ci]? = some (C, T, N) := by rw [← hc_gt_eq]; exact hcl
          have hin := hc_uw _ (List.mem_of_getElem? hcl')
          obtain ⟨ty0, hty, hnm⟩ := hc_cls hcl
          obtain ⟨ty, hp1, hp2, hp3⟩ := hc_fits hfk hfit hw0
          have hrow : (∀ (H1 : Heap) (locs1 : List Loc), va_P D vwCl ((hc_ws base cw).set (r - 22) ((hc_ad base b0 adK) r, .inr (ci, fs'.set b w0))) H1 → va_D (fun q => base ≤ q) ((hc_ws base cw).set (r - 22) ((hc_ad base b0 adK) r, .inr (ci, fs'.set b w0))) → va_S (fun q => base ≤ q) H H1 locs1 → W p l e R s m args below meth c H1 locs1 cells slots Q (F0 m (pc + 3) ls ws)) → W p l e R s m args below meth c H locs cells slots Q (F0 m pc ls (w0 :: .ref ((hc_ad base b0 adK) r) :: ws)) := by
            intro kk
            cases hm : Nat.beq (v % 2) 0 with
            | true =>
              rw [hm, cond_true] at hlw
              cases hfin : (T b).2.2.2 with
              | false => exact va_put (ref := C) (ty := ty) hx hb (hc_htsF (Z := []) hts) hin ty0 hty hnm hown hX.1 hcw.2.2.2.1 (hc_ws_D cw base) (hc_S0 h4) (r - 22) hce hcl' b hbN (hts _ (hc_wmem hlw).1 (hc_wmem hlw).2) (fun x hq => by rw [← hD]; exact hq) hfin hp1 hp2 hp3 (by omega) hdg kk
              | true =>
                simp only [hfin, cond_true, Bool.and_eq_true, decide_eq_true_eq] at hfp
                exact va_putF (ref := C) (ty := ty) hx hb (hc_htsF (Z := []) hts) hin ty0 hty hnm hown hX.1 hcw.2.2.2.1 (hc_ws_D cw base) (hc_S0 h4) (r - 22) hce hcl' b hbN (hts _ (hc_wmem hlw).1 (hc_wmem hlw).2) (fun x hq => by rw [← hD]; exact hq) hfin (hini (Nat.eq_of_beq_eq_true hfp.1.1)) (by rw [hD, hfp.1.2]) hp1 hp2 hp3 (by omega) hdg kk
            | false =>
              rw [hm, cond_false] at hlw
              cases hfin : (T b).2.2.2 with
              | false => exact va_putN (ref := C) (ty := ty) hx hb (hc_htsF (Z := []) hts) hin ty0 hty hnm hown hX.1 hcw.2.2.2.1 (hc_ws_D cw base) (hc_S0 h4) (r - 22) hce hcl' b hbN (va_Nw.use rfl (hX.2.2.2.1 _ (hc_wnmem hlw).1 (hc_wnmem hlw).2)) (fun x hq => by rw [← hD]; exact hq) hfin hp1 hp2 hp3 (by omega) hdg kk
              | true =>
                simp only [hfin, cond_true, Bool.and_eq_true, decide_eq_true_eq, hm] at hfp
                exact absurd hfp.2 (by decide)
          exact hs_wr (E' := .inr (ci, hc_set fs b u)) (e' := .inr (ci, fs'.set b w0)) hcw hr1 hr2 ⟨_, rfl, hc_sr_set b hfs hw0⟩ hsr hk hrow ⟨h1, h2, ⟨cw, hcw⟩, h4, h5⟩ ‹_›
        next => cases hf
    next => cases hk
  next => cases hk
theorem hs_new {mi : hc_M} {d a b w v idx : Nat} (hC : hc_C D cA base b0 adK adV sL xs mi p s m args meth c R d) (hdg : decode mi.2.1 pc = .ok (.new idx, 3)) (hnx : nx = pc + 3) (hf : (match hc_gt vwCl a with
      | some (C, _, _) => hc_w w (.classLink mi.1.cls idx C)
      | none => false) = true) (hk : hc_new (hc_gt hc_D a) a nx L st h = some (.inr (.inl (pc', L', st', h')))) (hrm : cells + (h'.1 - h.1) ≤ R.cells ∧ slots + (h'.2.1 - h.2.1) ≤ R.slots) (hat : hc_at D cA base b0 adK sL xs s nL L st h ls stk H locs cells) (kk : ∀ (ls : Array Slot) (stk : List Value) (H : Heap) (locs : List Loc), hc_at D cA base b0 adK sL xs s nL L' st' h' ls stk H locs (cells + (h'.1 - h.1)) → W p l e R s m args below meth c H locs (cells + (h'.1 - h.1)) (slots + (h'.2.1 - h.2.1)) Q (F0 m pc' ls stk)) : W p l e R s m args below meth c H locs cells slots Q (F0 m pc ls stk) := by
  subst hnx
  obtain ⟨hx, hb, hml, hown, hts, hX, -, hini⟩ := hC
  unfold hc_new at hk
  split at hk
  next vs hvs =>
    split at hf
    next C T N hcl =>
      obtain ⟨h1, h2, ⟨cw, hcw⟩, h4, h5⟩ := hat
      obtain ⟨ty, fs, d1, d2, d3, d4⟩ := hc_defs (hc_ad base b0 adK) hcl hvs
      have hcl' : vwCl[a]? = some (C, T, N) := by rw [← hc_gt_eq]; exact hcl
      have hin := hc_uw _ (List.mem_of_getElem? hcl')
      have hI := hc_inst _ (List.mem_of_getElem? hcl')
      have hts' := hc_htsF (Z := []) hts
      have hh : h' = hc_al h vs.length (.inr (a, vs)) := by
        simp only [hc_go, Option.some.injEq, Sum.inr.injEq, Sum.inl.injEq, Prod.mk.injEq] at hk
        exact hk.2.2.2.symm
      have hr1 : cells + 1 ≤ R.cells := by have := hrm.1; rw [hh] at this; simp only [hc_al] at this; omega
      have hr2 : slots + N ≤ R.slots := by have := hrm.2; rw [hh] at this; simp only [hc_al] at this; omega
      refine hs_al (n := vs.length) (E' := .inr (a, vs)) (e' := .inr (a, fs)) hcw ⟨_, rfl, d3⟩ h2 hk (fun kk => ?_) ⟨h1, h2, ⟨cw, hcw⟩, h4, h5⟩ ‹_›
      rw [d4] at kk
      exact va_new hx hb hts' hin ty d1 hown (hts _ (hc_wmem hf).1 (hc_wmem hf).2) (hts' _ hI.1) (hts' _ hI.2) hX.1 hcw.2.2.2.1 (hc_ws_D cw base) (hc_S0 h4) (fun q hq => by have := hX.2.1.2.2.1; have := h4.1; omega) hcl' d2 hr1 hr2 hdg kk
    next => cases hf
  next => cases hk
end HI
