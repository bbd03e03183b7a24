/-! stores into arrays, copies, the library's own -/
theorem hc_upd {f : Nat → Int} {g : Nat → Int32} {z x : Int32} {i v : Int} (hg : ∀ j, (g j).toInt = f j) (hz : z.toInt = i) (hx : x.toInt = v) : ∀ j, (upd g z.toNatClampNeg x j).toInt = hc_u f i.toNat v j := by
  intro j
  rw [hc_cl hz]
  simp only [upd, hc_u]
  split
  · exact hx
  · exact hg j
theorem hc_updL {f : Nat → Int} {g : Nat → Int64} {z : Int32} {x : Int64} {i v : Int} (hg : ∀ j, (g j).toInt = f j) (hz : z.toInt = i) (hx : x.toInt = v) : ∀ j, (vp_updL g z.toNatClampNeg x j).toInt = hc_u f i.toNat v j := by
  intro j
  rw [hc_cl hz]
  simp only [vp_updL, hc_u]
  split
  · exact hx
  · exact hg j
section HT
variable {p : Program} {l : Launch} {e : Env} {R : Room} {s : State} {m : MethodId} {args : Array Value} {below : List Frame} {meth : Method} {c : Code} {H : Heap} {locs : List Loc} {cells slots : Nat} {Q : State → Prop}
variable {D : va_G} {cA : Nat → ClassId} {base b0 : Nat} {adK adV : Nat → Nat} {sL : Nat} {xs : Nat → Int32}
variable {L st L' st' : List hc_V} {h h' : hc_H} {ls : Array Slot} {stk : List Value} {nL pc pc' nx i : Nat}
theorem hs_ast {mi : hc_M} {d : Nat} (hC : hc_C D cA base b0 adK adV sL xs mi p s m args meth c R d) (hdg : decode mi.2.1 pc = .ok (.iastore, 1)) (hnx : nx = pc + 1) (hk : hc_ast nx L st h = some (.inr (.inl (pc', L', st', h')))) (hat : hc_at D cA base b0 adK sL xs s nL L st h ls stk H locs cells) (kk : ∀ (ls : Array Slot) (stk : List Value) (H : Heap) (locs : List Loc), hc_at D cA base b0 adK sL xs s nL L' st' h' ls stk H locs (cells + (h'.1 - h.1)) → W p l e R s m args below meth c H locs (cells + (h'.1 - h.1)) (slots + (h'.2.1 - h.2.1)) Q (F0 m pc' ls stk)) : W p l e R s m args below meth c H locs cells slots Q (F0 m pc ls stk) := by
  subst hnx
  obtain ⟨hx, hb, hml, hown, hts, hX, -, hini⟩ := hC
  unfold hc_ast at hk
  split at hk
  next x i r st1 =>
    split at hk
    next t n f hcell =>
      cases h8 : (Nat.beq t 0) with
      | false => rw [h8] at hk; cases hk
      | true =>
        rw [h8, cond_true] at hk
        split at hk
        next hrg =>
          obtain ⟨h1, h2, ⟨cw, hcw⟩, h4, h5⟩ := hat
          obtain ⟨w9, ws9, rfl, ⟨z9, rfl, hz9⟩, hsr9⟩ := hc_sr_cons h2
          obtain ⟨w0, ws0, rfl, ⟨z, rfl, hz⟩, hsr0⟩ := hc_sr_cons hsr9
          obtain ⟨w1, ws, rfl, hw1, hsr⟩ := hc_sr_cons hsr0
          cases hc_vr_ref hw1
          have hin := hc_vin hz hrg.1 hrg.2
          have ht : t = 0 := Nat.eq_of_beq_eq_true h8
          subst ht
          obtain ⟨ce, hce, hcr, hr1, hr2⟩ := hc_cell hcw hcell hc_ar_d (hc_ar_s (by decide))
          rcases hcr with ⟨-, g, rfl, hg⟩ | ⟨q, -⟩ | ⟨q, -⟩
          · refine hs_wr (E' := .inl (0, n, .inl (hc_u f i.toNat x))) (e' := .inl (cA 0, n, .inl (upd g z.toNatClampNeg z9))) hcw hr1 hr2 (Or.inl ⟨rfl, _, rfl, hc_upd hg hz hz9⟩) hsr hk (fun k2 => ?_) ⟨h1, h2, ⟨cw, hcw⟩, h4, h5⟩ ‹_›
            exact va_iast hx hb hX.1 hcw.2.2.2.1 (hc_ws_D cw base) (hc_S0 h4) (r - 22) 0 hce rfl hin hdg k2
          · cases q
          · cases q
        next => cases hk
    next => cases hk
  next => cases hk
theorem hs_last {mi : hc_M} {d : Nat} (hC : hc_C D cA base b0 adK adV sL xs mi p s m args meth c R d) (hdg : decode mi.2.1 pc = .ok (.lastore, 1)) (hnx : nx = pc + 1) (hk : hc_last nx L st h = some (.inr (.inl (pc', L', st', h')))) (hat : hc_at D cA base b0 adK sL xs s nL L st h ls stk H locs cells) (kk : ∀ (ls : Array Slot) (stk : List Value) (H : Heap) (locs : List Loc), hc_at D cA base b0 adK sL xs s nL L' st' h' ls stk H locs (cells + (h'.1 - h.1)) → W p l e R s m args below meth c H locs (cells + (h'.1 - h.1)) (slots + (h'.2.1 - h.2.1)) Q (F0 m pc' ls stk)) : W p l e R s m args below meth c H locs cells slots Q (F0 m pc ls stk) := by
  subst hnx
  obtain ⟨hx, hb, hml, hown, hts, hX, -, hini⟩ := hC
  unfold hc_last at hk
  split at hk
  next x i r st1 =>
    split at hk
    next t n f hcell =>
      cases h8 : (Nat.beq t 1) with
      | false => rw [h8] at hk; cases hk
      | true =>
        rw [h8, cond_true] at hk
        split at hk
        next hrg =>
          obtain ⟨h1, h2, ⟨cw, hcw⟩, h4, h5⟩ := hat
          obtain ⟨w9, ws9, rfl, ⟨z9, rfl, hz9⟩, hsr9⟩ := hc_sr_cons h2
          obtain ⟨w0, ws0, rfl, ⟨z, rfl, hz⟩, hsr0⟩ := hc_sr_cons hsr9
          obtain ⟨w1, ws, rfl, hw1, hsr⟩ := hc_sr_cons hsr0
          cases hc_vr_ref hw1
          have hin := hc_vin hz hrg.1 hrg.2
          have ht : t = 1 := Nat.eq_of_beq_eq_true h8
          subst ht
          obtain ⟨ce, hce, hcr, hr1, hr2⟩ := hc_cell hcw hcell hc_ar_d (hc_ar_s (by decide))
          rcases hcr with ⟨q, -⟩ | ⟨-, g, rfl, hg⟩ | ⟨q, -⟩
          · cases q
          · refine hs_wr (E' := .inl (1, n, .inl (hc_u f i.toNat x))) (e' := .inl (cA 1, n, .inr (.inl (vp_updL g z.toNatClampNeg z9)))) hcw hr1 hr2 (Or.inr (Or.inl ⟨rfl, _, rfl, hc_updL hg hz hz9⟩)) hsr hk (fun k2 => ?_) ⟨h1, h2, ⟨cw, hcw⟩, h4, h5⟩ ‹_›
            exact va_last hx hb hX.1 hcw.2.2.2.1 (hc_ws_D cw base) (hc_S0 h4) (r - 22) 1 hce rfl hin hdg k2
          · cases q
        next => cases hk
    next => cases hk
  next => cases hk
theorem hs_bast {mi : hc_M} {d : Nat} (hC : hc_C D cA base b0 adK adV sL xs mi p s m args meth c R d) (hdg : decode mi.2.1 pc = .ok (.bastore, 1)) (hnx : nx = pc + 1) (hk : hc_bast nx L st h = some (.inr (.inl (pc', L', st', h')))) (hat : hc_at D cA base b0 adK sL xs s nL L st h ls stk H locs cells) (kk : ∀ (ls : Array Slot) (stk : List Value) (H : Heap) (locs : List Loc), hc_at D cA base b0 adK sL xs s nL L' st' h' ls stk H locs (cells + (h'.1 - h.1)) → W p l e R s m args below meth c H locs (cells + (h'.1 - h.1)) (slots + (h'.2.1 - h.2.1)) Q (F0 m pc' ls stk)) : W p l e R s m args below meth c H locs cells slots Q (F0 m pc ls stk) := by
  subst hnx
  obtain ⟨hx, hb, hml, hown, hts, hX, -, hini⟩ := hC
  unfold hc_bast at hk
  split at hk
  next x i r st1 =>
    split at hk
    next t n f hcell =>
      cases h8 : (Nat.beq t 2) with
      | false => rw [h8] at hk; cases hk
      | true =>
        rw [h8, cond_true] at hk
        split at hk
        next hrg =>
          obtain ⟨h1, h2, ⟨cw, hcw⟩, h4, h5⟩ := hat
          obtain ⟨w9, ws9, rfl, ⟨z9, rfl, hz9⟩, hsr9⟩ := hc_sr_cons h2
          obtain ⟨w0, ws0, rfl, ⟨z, rfl, hz⟩, hsr0⟩ := hc_sr_cons hsr9
          obtain ⟨w1, ws, rfl, hw1, hsr⟩ := hc_sr_cons hsr0
          cases hc_vr_ref hw1
          obtain ⟨hrg, h01⟩ := hrg
          have hin := hc_vin hz hrg.1 hrg.2
          have ht : t = 2 := Nat.eq_of_beq_eq_true h8
          subst ht
          have hnar : vp_nar .boolean z9 = z9 := by
            have hz2 : z9 = 0 ∨ z9 = 1 := by
              rcases h01 with q | q
              · left; apply Int32.toInt_inj.mp; rw [hz9, q]; rfl
              · right; apply Int32.toInt_inj.mp; rw [hz9, q]; rfl
            rcases hz2 with rfl | rfl <;> decide
          obtain ⟨ce, hce, hcr, hr1, hr2⟩ := hc_cell hcw hcell hc_ar_d (hc_ar_s (by decide))
          rcases hcr with ⟨q, -⟩ | ⟨q, -⟩ | ⟨-, g, rfl, hg⟩
          · cases q
          · cases q
          · refine hs_wr (E' := .inl (2, n, .inl (hc_u f i.toNat x))) (e' := .inl (cA 2, n, .inl (upd g z.toNatClampNeg (vp_nar .boolean z9)))) hcw hr1 hr2 (Or.inr (Or.inr ⟨rfl, _, rfl, hc_upd hg hz (by rw [hnar]; exact hz9)⟩)) hsr hk (fun k2 => ?_) ⟨h1, h2, ⟨cw, hcw⟩, h4, h5⟩ ‹_›
            exact va_zast hx hb hX.1 hcw.2.2.2.1 (hc_ws_D cw base) (hc_S0 h4) (r - 22) 2 hce rfl hin hdg k2
        next => cases hk
    next => cases hk
  next => cases hk
theorem hc_updQ {f : Nat → Option Nat} {z : Int32} {i : Int} (hz : z.toInt = i) (q : Option Nat) (ad : Nat → Nat) : va_up (fun j => (f j).map ad) z.toNatClampNeg (q.map ad) = fun j => (hc_u f i.toNat q j).map ad := by
  funext j
  rw [hc_cl hz]
  simp only [va_up, hc_u]
  split <;> rfl
theorem hs_aast {mi : hc_M} {d : Nat} (hC : hc_C D cA base b0 adK adV sL xs mi p s m args meth c R d) (hdg : decode mi.2.1 pc = .ok (.aastore, 1)) (hnx : nx = pc + 1) (hk : hc_aast nx L st h = some (.inr (.inl (pc', L', st', h')))) (hat : hc_at D cA base b0 adK sL xs s nL L st h ls stk H locs cells) (kk : ∀ (ls : Array Slot) (stk : List Value) (H : Heap) (locs : List Loc), hc_at D cA base b0 adK sL xs s nL L' st' h' ls stk H locs (cells + (h'.1 - h.1)) → W p l e R s m args below meth c H locs (cells + (h'.1 - h.1)) (slots + (h'.2.1 - h.2.1)) Q (F0 m pc' ls stk)) : W p l e R s m args below meth c H locs cells slots Q (F0 m pc ls stk) := by
  subst hnx
  obtain ⟨hx, hb, hml, hown, hts, hX, -, hini⟩ := hC
  unfold hc_aast at hk
  split at hk
  next x i r st1 =>
    split at hk
    next t n f hcell =>
      cases h8 : (Nat.beq t 3 && hc_isT h x) with
      | false => rw [h8] at hk; cases hk
      | true =>
        rw [h8, cond_true] at hk
        simp only [Bool.and_eq_true] at h8
        split at hk
        next hrg =>
          obtain ⟨h1, h2, ⟨cw, hcw⟩, h4, h5⟩ := hat
          obtain ⟨w9, ws9, rfl, hw9, hsr9⟩ := hc_sr_cons h2
          obtain ⟨w0, ws0, rfl, ⟨z, rfl, hz⟩, hsr0⟩ := hc_sr_cons hsr9
          obtain ⟨w1, ws, rfl, hw1, hsr⟩ := hc_sr_cons hsr0
          cases hc_vr_ref hw1
          have hin := hc_vin hz hrg.1 hrg.2
          have ht : t = 3 := Nat.eq_of_beq_eq_true h8.1
          subst ht
          obtain ⟨ce, hce, ⟨-, hcr⟩, hr1, hr2⟩ := hc_cell hcw hcell hc_ar_d (hc_ar_s (by decide))
          subst hcr
          refine hs_wr (E' := .inl (3, n, .inr (hc_u f i.toNat x))) (e' := .inl (cA 3, n, .inr (.inr (.inr (.inr (va_up (fun j => (f j).map (hc_ad base b0 adK)) z.toNatClampNeg (x.map (hc_ad base b0 adK)))))))) hcw hr1 hr2 ⟨rfl, by rw [hc_updQ hz]⟩ hsr hk (fun k2 => ?_) ⟨h1, h2, ⟨cw, hcw⟩, h4, h5⟩ ‹_›
          cases x with
          | none =>
            cases hw9
            exact va_astqN hx hb hX.1 hcw.2.2.2.1 (hc_ws_D cw base) (hc_S0 h4) (r - 22) 3 hce rfl hin hdg k2
          | some k =>
            cases hw9
            have h8' := h8.2
            unfold hc_isT at h8'
            split at h8'
            next => next hq => cases hq
            next k' hq =>
              cases hq
              split at h8'
              next ci vs hv =>
                have : ci = 5 := Nat.eq_of_beq_eq_true h8'
                subst this
                obtain ⟨cv, hcv, hcrv, -, -⟩ := hc_cell hcw hv (hc_ob_d (by decide)) hc_ob_s
                obtain ⟨fs', rfl, -⟩ := hcrv
                exact va_astq (r := (RX5, TX5, 4)) hx hb hX.1 hcw.2.2.2.1 (hc_ws_D cw base) (hc_S0 h4) (r - 22) 3 (k - 22) 5 hce rfl hcv rfl hin hdg k2
              next => cases h8'
        next => cases hk
    next => cases hk
  next => cases hk
theorem hc_cpyI {f g : Nat → Int} {F G : Nat → Int32} {sp dp n : Nat} (hf : ∀ j, (F j).toInt = f j) (hg : ∀ j, (G j).toInt = g j) : ∀ j, (va_cpy F G sp dp n j).toInt = hc_cpy f g sp dp n j := by
  intro j
  simp only [va_cpy, hc_cpy]
  split
  · exact hf _
  · exact hg j
theorem hc_prw : Cond.native arraycopyName ∈ lw_tbl.filter goodWord ∧ Cond.static arraycopyName ∈ lw_tbl.filter goodWord ∧ Cond.initialized "java/lang/System" ∈ lw_tbl.filter goodWord ∧ nativeFrameWords "java/lang/System" "arraycopy" 5 + 11 ≤ 40 := by decide +kernel
theorem hs_copy {mi : hc_M} {d idx w : Nat} (hC : hc_C D cA base b0 adK adV sL xs mi p s m args meth c R (d + 1)) (hdg : decode mi.2.1 pc = .ok (.invokestatic idx, 3)) (hnx : nx = pc + 3) (hw : hc_w w (.methodLink mi.1.cls idx arraycopyName) = true) (hsz : (stk.map fun v => v.category).sum ≤ 16) (hnl : mi.2.2.1 = nL) (hk : hc_copy nx L st h = some (.inr (.inl (pc', L', st', h')))) (hat : hc_at D cA base b0 adK sL xs s nL L st h ls stk H locs cells) (kk : ∀ (ls : Array Slot) (stk : List Value) (H : Heap) (locs : List Loc), hc_at D cA base b0 adK sL xs s nL L' st' h' ls stk H locs (cells + (h'.1 - h.1)) → W p l e R s m args below meth c H locs (cells + (h'.1 - h.1)) (slots + (h'.2.1 - h.2.1)) Q (F0 m pc' ls stk)) : W p l e R s m args below meth c H locs cells slots Q (F0 m pc ls stk) := by
  subst hnx
  obtain ⟨hx, hb, hml, hown, hts, hX, ⟨hfr, hlo⟩, hini⟩ := hC
  have hts' := hc_htsF (Z := []) hts
  unfold hc_copy at hk
  split at hk
  next n dp r1 sp r0 st1 =>
    split at hk
    next t0 n0 f hc0 =>
      split at hk
      next t1 n1 g hc1 =>
        cases h8 : (Nat.beq t0 0 && Nat.beq t1 0) with
        | false => rw [h8] at hk; cases hk
        | true =>
          rw [h8, cond_true] at hk
          simp only [Bool.and_eq_true] at h8
          have e0 : t0 = 0 := Nat.eq_of_beq_eq_true h8.1
          have e1 : t1 = 0 := Nat.eq_of_beq_eq_true h8.2
          subst e0; subst e1
          split at hk
          next hrg =>
            obtain ⟨g1, g2, g3, g4, g5⟩ := hrg
            obtain ⟨h1, h2, ⟨cw, hcw⟩, h4, h5⟩ := hat
            obtain ⟨wa, wsa, rfl, ⟨za, rfl, hza⟩, hsra⟩ := hc_sr_cons h2
            obtain ⟨wb, wsb, rfl, ⟨zb, rfl, hzb⟩, hsrb⟩ := hc_sr_cons hsra
            obtain ⟨wc, wsc, rfl, hwc, hsrc⟩ := hc_sr_cons hsrb
            obtain ⟨wd, wsd, rfl, ⟨zd, rfl, hzd⟩, hsrd⟩ := hc_sr_cons hsrc
            obtain ⟨we, wse, rfl, hwe, hsre⟩ := hc_sr_cons hsrd
            cases hc_vr_ref hwc
            cases hc_vr_ref hwe
            obtain ⟨ce0, hce0, hcr0, -, -⟩ := hc_cell hcw hc0 hc_ar_d (hc_ar_s (by decide))
            obtain ⟨ce1, hce1, hcr1, hr1, hr2⟩ := hc_cell hcw hc1 hc_ar_d (hc_ar_s (by decide))
            rcases hcr0 with ⟨-, F, rfl, hF⟩ | ⟨q, -⟩ | ⟨q, -⟩
            · rcases hcr1 with ⟨-, G, rfl, hG⟩ | ⟨q, -⟩ | ⟨q, -⟩
              · refine hs_wr (E' := .inl (0, n1, .inl (hc_cpy f g sp.toNat dp.toNat n.toNat))) (e' := .inl (cA 0, n1, .inl (va_cpy F G zd.toNatClampNeg zb.toNatClampNeg za.toNatClampNeg))) hcw hr1 hr2 (Or.inl ⟨rfl, _, rfl, by rw [hc_cl hza, hc_cl hzb, hc_cl hzd]; exact hc_cpyI hF hG⟩) hsre hk (fun k2 => ?_) ⟨h1, h2, ⟨cw, hcw⟩, h4, h5⟩ ‹_›
                refine va_copyi (ty := .int) hx hb (by rw [hml, hnl, h1.1]) hown (hts _ (hc_wmem hw).1 (hc_wmem hw).2) (hts' _ hc_prw.1) (hts' _ hc_prw.2.1) (hts' _ hc_prw.2.2.1) hX.1 hcw.2.2.2.1 (hc_ws_D cw base) (hc_S0 h4) (r0 - 22) (r1 - 22) 0 0 hce0 hce1 rfl rfl rfl (hc_nlt hzd g3) (hc_nlt hzb g2) (hc_nlt hza g1) (by rw [hc_cl hzd, hc_cl hza]; omega) (by rw [hc_cl hzb, hc_cl hza]; omega) (fun _ _ => rfl) (by omega) ?_ hdg k2
                have := hc_prw.2.2.2
                simp only [List.map_cons, List.sum_cons] at hsz
                omega
              · cases q
              · cases q
            · cases q
            · cases q
          next => cases hk
      next => cases hk
    next => cases hk
  next => cases hk
theorem hc_clw : Cond.sameMethod "[I" "java/lang/Object" "clone" "()Ljava/lang/Object;" ∈ lw_tbl.filter goodWord ∧ Cond.native ⟨"java/lang/Object", "clone", "()Ljava/lang/Object;"⟩ ∈ lw_tbl.filter goodWord ∧ Cond.instanceMethod ⟨"java/lang/Object", "clone", "()Ljava/lang/Object;"⟩ ∈ lw_tbl.filter goodWord ∧ Cond.selects "[I" ⟨"[I", "clone", "()Ljava/lang/Object;"⟩ ⟨"java/lang/Object", "clone", "()Ljava/lang/Object;"⟩ ∈ lw_tbl.filter goodWord := by decide +kernel
theorem hs_clone {mi : hc_M} {d idx w : Nat} (hC : hc_C D cA base b0 adK adV sL xs mi p s m args meth c R (d + 1)) (hdg : decode mi.2.1 pc = .ok (.invokevirtual idx, 3)) (hnx : nx = pc + 3) (hw : hc_w w (.methodLink mi.1.cls idx ⟨"[I", "clone", "()Ljava/lang/Object;"⟩) = true) (hsz : (stk.map fun v => v.category).sum ≤ 16) (hnl : mi.2.2.1 = nL) (hk : hc_clone nx L st h = some (.inr (.inl (pc', L', st', h')))) (hrm : cells + (h'.1 - h.1) ≤ R.cells ∧ slots + (h'.2.1 - h.2.1) ≤ R.slots) (hat : hc_at D cA base b0 adK sL xs s nL L st h ls stk H locs cells) (kk : ∀ (ls : Array Slot) (stk : List Value) (H : Heap) (locs : List Loc), hc_at D cA base b0 adK sL xs s nL L' st' h' ls stk H locs (cells + (h'.1 - h.1)) → W p l e R s m args below meth c H locs (cells + (h'.1 - h.1)) (slots + (h'.2.1 - h.2.1)) Q (F0 m pc' ls stk)) : W p l e R s m args below meth c H locs cells slots Q (F0 m pc ls stk) := by
  subst hnx
  obtain ⟨hx, hb, hml, hown, hts, hX, ⟨hfr, hlo⟩, hini⟩ := hC
  have hts' := hc_htsF (Z := []) hts
  unfold hc_clone at hk
  split at hk
  next r st1 =>
    split at hk
    next t n f hcell =>
      cases h8 : (Nat.beq t 0) with
      | false => rw [h8] at hk; cases hk
      | true =>
        rw [h8, cond_true] at hk
        have e0 : t = 0 := Nat.eq_of_beq_eq_true h8
        subst e0
        obtain ⟨h1, h2, ⟨cw, hcw⟩, h4, h5⟩ := hat
        obtain ⟨w1, ws, rfl, hw1, hsr⟩ := hc_sr_cons h2
        cases hc_vr_ref hw1
        have hh : h' = hc_al h n (.inl (0, n, .inl f)) := by
          simp only [hc_go, Option.some.injEq, Sum.inr.injEq, Sum.inl.injEq, Prod.mk.injEq] at hk
          exact hk.2.2.2.symm
        have hr1 : cells + 1 ≤ R.cells := by have := hrm.1; rw [hh] at this; simp only [hc_al] at this; omega
        have hr2 : slots + n ≤ R.slots := by have := hrm.2; rw [hh] at this; simp only [hc_al] at this; omega
        obtain ⟨ce, hce, hcr, hq1, hq2⟩ := hc_cell hcw hcell hc_ar_d (hc_ar_s (by decide))
        rcases hcr with ⟨-, g, rfl, hg⟩ | ⟨q, -⟩ | ⟨q, -⟩
        · refine hs_al (n := n) (E' := .inl (0, n, .inl f)) (e' := .inl (cA 0, n, .inl g)) hcw (Or.inl ⟨rfl, g, rfl, hg⟩) hsr hk (fun k2 => ?_) ⟨h1, h2, ⟨cw, hcw⟩, h4, h5⟩ ‹_›
          refine va_clone (ty := .int) (x := (n, .inl g)) hx hb (by rw [hml, hnl, h1.1]) hown (hts _ (hc_wmem hw).1 (hc_wmem hw).2) (hts' _ hc_clw.1) (hts' _ hc_clw.2.1) (hts' _ hc_clw.2.2.1) (hts' _ hc_clw.2.2.2) hX.2.2.2.2.2.2.2 hX.1 hcw.2.2.2.1 (hc_ws_D cw base) (hc_S0 h4) (fun q hq => by have := hX.2.1.2.2.1; have := h4.1; omega) (r - 22) 0 hce rfl hX.2.2.2.2.2.1 (fun i v hv => ?_) (by omega) ?_ hr1 hr2 hdg (fun q H1 hK' hP hD hS => k2 q H1 hP hD hS)
          · have hv' : (arrV (cA 0) n (fun j => Value.int (g j))).slots[i]? = some v := hv
            by_cases hi : i < n
            · rw [arrV_read _ _ hi] at hv'
              cases hv'
              rfl
            · have := (Array.getElem?_eq_some_iff.mp hv').1
              rw [arrV_size] at this
              exact absurd this hi
          · simp only [List.map_cons, List.sum_cons] at hsz
            omega
        · cases q
        · cases q
    next => cases hk
  next => cases hk
theorem hs_cast {mi : hc_M} {d idx w : Nat} (hC : hc_C D cA base b0 adK adV sL xs mi p s m args meth c R d) (hdg : decode mi.2.1 pc = .ok (.checkcast idx, 3)) (hnx : nx = pc + 3) (hw : hc_w w (.classLink mi.1.cls idx "[I") = true) (hk : hc_cast nx L st h = some (.inr (.inl (pc', L', st', h')))) (hat : hc_at D cA base b0 adK sL xs s nL L st h ls stk H locs cells) (kk : ∀ (ls : Array Slot) (stk : List Value) (H : Heap) (locs : List Loc), hc_at D cA base b0 adK sL xs s nL L' st' h' ls stk H locs (cells + (h'.1 - h.1)) → W p l e R s m args below meth c H locs (cells + (h'.1 - h.1)) (slots + (h'.2.1 - h.2.1)) Q (F0 m pc' ls stk)) : W p l e R s m args below meth c H locs cells slots Q (F0 m pc ls stk) := by
  subst hnx
  obtain ⟨hx, hb, hml, hown, hts, hX, -, hini⟩ := hC
  unfold hc_cast at hk
  split at hk
  next r st1 =>
    split at hk
    next t n f hcell =>
      cases h8 : (Nat.beq t 0) with
      | false => rw [h8] at hk; cases hk
      | true =>
        rw [h8, cond_true] at hk
        have e0 : t = 0 := Nat.eq_of_beq_eq_true h8
        subst e0
        obtain ⟨h1, h2, ⟨cw, hcw⟩, h4, h5⟩ := hat
        obtain ⟨w1, ws, rfl, hw1, hsr⟩ := hc_sr_cons h2
        cases hc_vr_ref hw1
        obtain ⟨ce, hce, hcr, hq1, hq2⟩ := hc_cell hcw hcell hc_ar_d (hc_ar_s (by decide))
        rcases hcr with ⟨-, g, rfl, hg⟩ | ⟨q, -⟩ | ⟨q, -⟩
        · refine hs_to (st1 := xR r :: st1) (stk1 := .ref ((hc_ad base b0 adK) r) :: ws) ⟨hc_mkR, hsr⟩ hk (fun k2 => ?_) ⟨h1, h2, ⟨cw, hcw⟩, h4, h5⟩ ‹_›
          exact va_castA hx hb hown (hts _ (hc_wmem hw).1 (hc_wmem hw).2) hcw.2.2.2.1 (r - 22) hce hX.2.2.2.2.2.1 hdg k2
        · cases q
        · cases q
    next => cases hk
  next => cases hk
theorem hc_oiw : Cond.instanceMethod Lib.objectInit ∈ lw_tbl.filter goodWord := by decide +kernel
theorem hc_oiw2 : (Cond.code Lib.objectInit ⟨#[0xb1]⟩ 1 none) ∈ lw_tbl.filter goodWord := by decide +kernel
theorem hs_oin {mi : hc_M} {d idx w : Nat} (hC : hc_C D cA base b0 adK adV sL xs mi p s m args meth c R (d + 1)) (hdg : decode mi.2.1 pc = .ok (.invokespecial idx, 3)) (hnx : nx = pc + 3) (hw : hc_w w (.methodLink mi.1.cls idx Lib.objectInit) = true) (hsz : ∀ v ws, stk = v :: ws → Nat.ble (hc_sz (st.drop 1)) 8 = true → (ws.map fun v => v.category).sum ≤ 8) (hnl : mi.2.2.1 = nL) (hk : hc_oin nx L st h = some (.inr (.inl (pc', L', st', h')))) (hat : hc_at D cA base b0 adK sL xs s nL L st h ls stk H locs cells) (kk : ∀ (ls : Array Slot) (stk : List Value) (H : Heap) (locs : List Loc), hc_at D cA base b0 adK sL xs s nL L' st' h' ls stk H locs (cells + (h'.1 - h.1)) → W p l e R s m args below meth c H locs (cells + (h'.1 - h.1)) (slots + (h'.2.1 - h.2.1)) Q (F0 m pc' ls stk)) : W p l e R s m args below meth c H locs cells slots Q (F0 m pc ls stk) := by
  subst hnx
  obtain ⟨hx, hb, hml, hown, hts, hX, ⟨hfr, hlo⟩, hini⟩ := hC
  have hts' := hc_htsF (Z := []) hts
  unfold hc_oin at hk
  split at hk
  next r st1 =>
    cases h8 : Nat.ble (hc_sz st1) 8 with
    | false => rw [h8] at hk; cases hk
    | true =>
      rw [h8, cond_true] at hk
      obtain ⟨h1, h2, ⟨cw, hcw⟩, h4, h5⟩ := hat
      obtain ⟨w1, ws, rfl, hw1, hsr⟩ := hc_sr_cons h2
      cases hc_vr_ref hw1
      have h9 := hsz _ ws rfl h8
      refine hs_to (st1 := st1) (stk1 := ws) hsr hk (fun k2 => ?_) ⟨h1, h2, ⟨cw, hcw⟩, h4, h5⟩ ‹_›
      exact W.objInit hx hb hown (hts _ (hc_wmem hw).1 (hc_wmem hw).2) (hts' _ hc_oiw) (hts' _ hc_oiw2) rfl (by rw [hml, hnl]; exact h1.1) rfl hdg (by omega) (by show 2 * 0 + _ + 12 ≤ _; omega) k2
  next => cases hk
end HT
