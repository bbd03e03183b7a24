/-! THE CLAIM OUT OF ONE WALK OF THE LAW'S BODY. Your part is whole_start (and what it stands on); all else here is the same for every law, but numbers. -/
def R_law : String := "CathedralCoinLaw"
def lw_P (b : Addr) (xs : List Int32) (args : Array Value) (s : State) : Prop := args = #[.ref b] ∧ s.IntsAt b xs ∧ xs.length ≤ 3072 ∧ (Jvm.Cond.and given_1 narrow_1).before args s = true
def lw_Q (_ : Array Value) (s : State) (o : Outcome) (t : State) : Prop := o = .returned (some (.int 1)) ∧ Framed s o t [] 600000 7302250
def lw_Z (below : List Frame) (a : Array Value) (s : State) : State → Prop := fun t => ∃ o, t.status = .running ∧ Ended t below o ∧ lw_Q a s o t
/-- the law's own end, with 1 on the stack, nothing written that was there before, its room as the claim has it -/
theorem lw_ret {p : Program} {l : Launch} {e : Env} {s : State} {m : MethodId} {below : List Frame} {meth : Method} {c : Code} {b : Nat} (hx : p.tables.exec = Jvm.exec) (hb : c.code = code) (hr : meth.sig.returnType = ret) (hlocks : meth.locks = false) {pc : Nat} {H : Heap} {ls : Array Slot} (hdg : decode code pc = .ok (.ireturn, 1)) : W p l e room_1 s m #[Value.ref b] below meth c H [] 600000 7302250 (lw_Z below #[Value.ref b] s) (F0 m pc ls [.int 1]) := by
  intro T hT X
  obtain ⟨fs, hret, hrun, hended, hW, hframe⟩ := X.leave (v := some (.int 1)) (hlocks := hlocks) (fun h => by rw [hr] at h; cases h)
  have hmeth' : T.vm.method? m = some meth := X.method'
  refine ⟨T.setFrames fs, ?_, .returned (some (.int 1)), hrun, hended, rfl, ⟨_, rfl⟩, hW, hframe⟩
  jvm_step X.here [X.here.top, hx, hb, hdg, hmeth', hr, ret, narrow_b1]
  (try refine ⟨rfl, ?_⟩); (try refine ⟨rfl, ?_⟩)
  first | (intro acts; rw [hret _ acts rfl rfl rfl]) | rw [hret _ _ rfl rfl rfl]
  exact Steps.refl _
/-- what holds at the law's entry: the machine, the code, the tables' words (any of lw_tbl by 'hts w (by decide +kernel)'), the script of L ints xs at the cell b, what the Statement gives of the start (any of its parts by flat_of_before) -/
def lw_At (p : Program) (s : State) (m : MethodId) (meth : Method) (c : Code) (b L : Nat) (xs : Nat → Int32) : Prop :=
  p.tables.exec = Jvm.exec ∧ c.code = code ∧ meth.sig.returnType = ret ∧ c.maxLocals = 4 ∧ s.vm.findClass R_law = some m.cls ∧ (∀ w ∈ lw_tbl, w.before #[Value.ref b] s = true) ∧ va_X b L xs s s.heap ∧ b < s.heap.size ∧ meth.locks = false ∧ (Jvm.Cond.and given_1 narrow_1).before #[Value.ref b] s = true
theorem hc_start {s : State} {b L : Nat} {xs : Nat → Int32} (hL : L ≤ 3072) (hts : ∀ w ∈ lw_tbl, w.before #[Value.ref b] s = true) (hX : va_X b L xs s s.heap) (hb : b < s.heap.size) (hgv : (Jvm.Cond.and given_1 narrow_1).before #[Value.ref b] s = true) :
    ∃ (D : va_G) (cA : Nat → ClassId) (adK adV : Nat → Nat), hc_X D cA s.heap.size b adK adV L xs s := by
  have hg := hc_htsF (Z := []) (fun w h _ => hts w h)
  have hs := flat_of_before _ hgv
  have hA : ∀ a : Nat, a < s.heap.size → ¬ (s.heap.size ≤ a) := fun a h => by omega
  have h1 : ∀ k : Nat, ∃ q : ClassId × (Nat → Nat), ∀ r : vw_C, vwCl[k]? = some r → u_Kn s r.1 r.2.1 r.2.2 q.1 q.2 := by
    intro k
    cases hk : vwCl[k]? with
    | none => exact ⟨(0, fun _ => 0), fun r h => by cases h⟩
    | some r =>
      have hm := List.mem_of_getElem? hk
      obtain ⟨cC, iS, hK⟩ := u_known (C := r.1) (T := r.2.1) (N := r.2.2) (n := r.2.2) hg (hc_uw r hm) (hg _ (hc_inst r hm).1)
      exact ⟨(cC, iS), fun r' h => by cases h; exact hK⟩
  obtain ⟨dq, hdq⟩ := Classical.axiomOfChoice h1
  obtain ⟨c0, k0, m0, a0, b0, d0⟩ := Cond.arrayClass_spec (hg _ hc_acls.1)
  obtain ⟨c1, k1, m1, a1, b1, d1⟩ := Cond.arrayClass_spec (hg _ hc_acls.2.1)
  obtain ⟨c2, k2, m2, a2, b2, d2⟩ := Cond.arrayClass_spec (hg _ hc_acls.2.2)
  obtain ⟨m3, c3, k3, e3, -, b3, d3, a3⟩ := Cond.arrayOver_spec (hts _ hf_tb.2.2.1)
  obtain ⟨adK, adV, hV, hev⟩ := vk_Sof (N := 21) (tm := hc_tm) (len := hc_lens) (byt := hc_byts) (A := fun q => s.heap.size ≤ q) (fun i hi => by rw [hc_lenT]; have := hc_lenB i hi; omega) (fun i hi => hs _ (hf_ex i hi)) (fun i hi => hs _ (hf_co i hi)) (fun i hi => hs _ (hf_ar i hi)) (fun i hi => hs _ (hf_le i hi)) (fun i hi j hj => hs _ (hf_el i hi j hj)) (fun i j hi hj hij => (hf_ne i hi j hj hij).imp (hs _) (hs _)) hA
  refine ⟨(fun k => (dq k).1, fun k => (dq k).2), fun t => match t with
    | 0 => c0
    | 1 => c1
    | 2 => c2
    | _ => c3, adK, adV, ⟨fun k q h => hdq k q h, fun k q h => ?_⟩, ⟨hX, hb, Nat.le_refl _, hL⟩, ⟨hV, fun i o j tx h => ?_⟩, fun w hw h => va_Nw.of (hc_nstT h) (hts w hw), ⟨?_, ?_⟩, ?_, va_AO.of (hts _ hf_tb.2.2.1), va_Nw.of rfl (hts _ hf_tb.2.2.2)⟩
  · match k, h with
    | 0, h => cases h; exact ⟨fun n z => ⟨fun k h => (by cases h), k0, b0, m0, d0⟩, a0⟩
    | 1, h => cases h; exact ⟨fun n z => ⟨fun k h => (by cases h), k1, b1, m1, d1⟩, a1⟩
    | 2, h => cases h; exact ⟨fun n z => ⟨fun k h => (by cases h), k2, b2, m2, d2⟩, a2⟩
    | 3, h => cases h; exact ⟨fun n z => ⟨fun k h => (by cases h), k3, b3, m3, d3⟩, k3, m3, b3, d3, e3, a3⟩
    | k + 4, h => simp [hc_tys] at h
  · have hi : i < 21 := hc_gt_lt hc_S _ _ h
    have hgd : hc_S.getD i ("", 0, "") = (o, j, tx) := by
      rw [List.getD_eq_getElem?_getD, ← hc_gt_eq, h]
      rfl
    have e1 := hf_own i hi
    have e2 := hf_tr i hi
    have e4 := hev i hi
    unfold hc_tm at e4
    rw [hgd] at e1 e2 e4
    have e1 : o = "CathedralCoin$Tokens" := e1
    subst e1
    exact vk_R.of (hts _ e2) e4
  · exact va_Zof (hts _ hf_tb.1) (hg _ (sw_in 102 (.initialized "java/lang/String") (by decide +kernel))) (va_eqt (hs _ hf_st.1)) hA
  · exact va_Zqof (hts _ hf_tb.2.1) (hg _ (sw_in 104 (.initialized "jdk/internal/util/Preconditions") (by decide +kernel))) (hs _ hf_st.2) hA
  · exact a0
/-- the heap at the law's entry -/
def hc_h0 (L : Nat) (xs : Nat → Int32) : hc_H := (22, 0, fun k => bif Nat.blt k 22 then hc_sp L xs k else hc_dead)
set_option maxRecDepth 100000 in
theorem whole_of (hMT : ∀ mj ∈ hc_MT, hc_hok mj) (hLw : hc_all mL_law)
    (hrun : ∀ (L : Nat) (xs : Nat → Int32), L ≤ 3072 → ∃ (n : Nat) (h' : hc_H), hc_run n 1000 mL_law 0 [xR 0, none, none, none] [] (hc_h0 L xs) = some ([xI 1], h') ∧ h'.1 ≤ 600022 ∧ h'.2.1 ≤ 7302250)
    {p : Program} {e : Env} {s : State} {m : MethodId} {below : List Frame} {meth : Method} {c : Code} (l : Launch) {b L : Nat} {xs : Nat → Int32} (hL : L ≤ 3072) (C0 : lw_At p s m meth c b L xs) : W p l e room_1 s m #[Value.ref b] below meth c s.heap [] 0 0 (lw_Z below #[Value.ref b] s) (entryFrame m ([Value.ref b] : List Value).toArray 4) := by
  obtain ⟨hx, hb, hr, hml, hown, hts, hX, hbl, hlocks, hgv⟩ := C0
  obtain ⟨D, cA, adK, adV, hXX⟩ := hc_start hL hts hX hbl hgv
  obtain ⟨n, h', hn, hc1, hc2⟩ := hrun L xs hL
  rw [lg_entry_eq]
  have hC : hc_C D cA s.heap.size b adK adV L xs mL_law p s m #[Value.ref b] meth c room_1 1000 := ⟨hx, hb, hml, hown, fun w h _ => hts w h, hXX, ⟨by decide, by decide⟩, fun q => by cases q⟩
  have hrel : hc_rel D cA s.heap.size (hc_ad s.heap.size b adK) L xs (hc_h0 L xs) s.heap := by
    refine ⟨[], rfl, rfl, fun i e h => by simp at h, fun k q h => by simp [hc_ws] at h, fun k hk => ?_, fun k hk => ?_⟩
    · have hk : 22 ≤ k := hk
      have : Nat.blt k 22 = false := by
        cases q : Nat.blt k 22 with
        | false => rfl
        | true => rw [Nat.blt_eq] at q; omega
      simp only [hc_h0, this, cond_false]
    · have : Nat.blt k 22 = true := by rw [Nat.blt_eq]; exact hk
      simp only [hc_h0, this, cond_true]
  have hlr : hc_lr (hc_ad s.heap.size b adK) [xR 0, none, none, none] ((lg_sl ([Value.ref b] : List Value) ++ List.replicate (4 - (lg_sl ([Value.ref b] : List Value)).length) Slot.unset).toArray) 4 :=
    hc_ent_lr (vs := [xR 0]) (ws := [.ref b]) (n := 4) ⟨rfl, trivial⟩ (by decide)
  refine hc_sound hMT n 1000 mL_law 0 _ [] (hc_h0 L xs) _ h' hn hLw hC ⟨hlr, trivial, hrel, va_S.rf, rfl⟩ ⟨?_, ?_⟩ ?_
  · show 0 + (h'.1 - 22) ≤ 600000
    omega
  · show 0 + (h'.2.1 - 0) ≤ 7302250
    omega
  · intro pcr I L1 st1 ls stk H locs hI hk hat
    have hok := hLw pcr I hI
    obtain ⟨nx, ins, a, b', w, u⟩ := I
    obtain ⟨k1, k2, k3, k4, k5⟩ := hat
    refine va_forget (fun q hq => k4.2.2 q hq) ?_
    refine W.widen (k := 600000) (n := 7302250) (by show 0 + (h'.1 - 22) ≤ 600000; omega) (by show 0 + (h'.2.1 - 0) ≤ 7302250; omega) ?_
    by_cases hi : ins = .ireturn
    · subst hi
      obtain ⟨hdg, -, -⟩ := hc_un (i := .ireturn) (n := 1) (nx := nx) hok
      obtain ⟨x, rfl, e2, t, ht, hnr⟩ := hc_rti_sp (show hc_rti mL_law.2.2.2.1 st1 h' = _ from hk)
      simp only [List.cons.injEq, Option.some.injEq, Sum.inl.injEq, and_true] at e2
      subst e2
      obtain ⟨w1, ws, rfl, ⟨z, rfl, hz⟩, hs2⟩ := hc_sr_cons k2
      cases hc_sr_nil hs2
      have : z = 1 := by apply Int32.toInt_inj.mp; rw [hz]; rfl
      subst this
      exact lw_ret hx hb hr hlocks hdg
    · exfalso
      by_cases h2 : ins = .lreturn
      · subst h2
        obtain ⟨x, rfl, e2, ht⟩ := hc_rtl_sp (show hc_rtl mL_law.2.2.2.1 st1 h' = _ from hk)
        simp at e2
      · by_cases h3 : ins = .areturn
        · subst h3
          obtain ⟨x, rfl, e2, ht⟩ := hc_rta_sp (show hc_rta mL_law.2.2.2.1 st1 h' = _ from hk)
          simp at e2
        · by_cases h4 : ins = .return_
          · subst h4
            obtain ⟨rfl, e2, ht⟩ := hc_rtv_sp (show hc_rtv mL_law.2.2.2.1 st1 h' = _ from hk)
            simp at e2
          · exact hc_noret hi h2 h3 h4 hk
