section SV
variable {D : va_G} {cA : Nat → ClassId} {base b0 : Nat} {adK adV : Nat → Nat} {sL : Nat} {xs : Nat → Int32}
def hc_Pc (D : va_G) (cA : Nat → ClassId) (base b0 : Nat) (adK adV : Nat → Nat) (sL : Nat) (xs : Nat → Int32) (vs : List hc_V) (h : hc_H) : Array Value → State → Prop := fun av U => hc_sr (hc_ad base b0 adK) vs av.toList ∧ hc_rel D cA base (hc_ad base b0 adK) sL xs h U.heap ∧ hc_X D cA base b0 adK adV sL xs U
def hc_Qc (D : va_G) (cA : Nat → ClassId) (base b0 : Nat) (adK : Nat → Nat) (sL : Nat) (xs : Nat → Int32) (v : List hc_V) (h : hc_H) : Array Value → State → Outcome → State → Prop := fun _ st oc t => ∃ w : Option Value, oc = .returned w ∧ hc_sr (hc_ad base b0 adK) v w.toList ∧ hc_rel D cA base (hc_ad base b0 adK) sL xs h t.heap ∧ va_F (fun q => base ≤ q) st t
/-- what a run of the pure machine says of the machine -/
def hc_Snd (D : va_G) (cA : Nat → ClassId) (base b0 : Nat) (adK adV : Nat → Nat) (sL : Nat) (xs : Nat → Int32) (n : Nat) : Prop := ∀ (d : Nat) (mi : hc_M) (pc : Nat) (L st : List hc_V) (h : hc_H) (v : List hc_V) (h' : hc_H), hc_run n d mi pc L st h = some (v, h') → hc_all mi →
  ∀ {p : Program} {l : Launch} {e : Env} {R : Room} {s : State} {m : MethodId} {args : Array Value} {below : List Frame} {meth : Method} {c : Code} {H : Heap} {locs : List Loc} {cells slots : Nat} {Q : State → Prop} {ls : Array Slot} {stk : List Value},
  hc_C D cA base b0 adK adV sL xs mi p s m args meth c R d → hc_at D cA base b0 adK sL xs s mi.2.2.1 L st h ls stk H locs cells → cells + (h'.1 - h.1) ≤ R.cells ∧ slots + (h'.2.1 - h.2.1) ≤ R.slots →
  (∀ (pcr : Nat) (I : hc_I) (L1 st1 : List hc_V) (ls : Array Slot) (stk : List Value) (H : Heap) (locs : List Loc), hc_gt mi.2.2.2.2.2.2.2 pcr = some I → hc_kind d mi.2.2.2.1 pcr I L1 st1 h' = some (.inl (v, h')) → hc_at D cA base b0 adK sL xs s mi.2.2.1 L1 st1 h' ls stk H locs (cells + (h'.1 - h.1)) → W p l e R s m args below meth c H locs (cells + (h'.1 - h.1)) (slots + (h'.2.1 - h.2.1)) Q (F0 m pcr ls stk)) →
  W p l e R s m args below meth c H locs cells slots Q (F0 m pc ls stk)
theorem hc_met {n : Nat} (IH : hc_Snd D cA base b0 adK adV sL xs n) (l : Launch) {d : Nat} {mj : hc_M} (hj : hc_hok mj) {vs v1 : List hc_V} {h h1 : hc_H} (hl : (hc_fl vs).length ≤ mj.2.2.1) (hrun : hc_run n d mj 0 (hc_ent mj.2.2.1 vs) [] h = some (v1, h1)) :
    Met l mj.1 (Cond.code mj.1 mj.2.1 mj.2.2.1 mj.2.2.2.1 :: hc_TB) ({ frames := d, cells := h1.1 - h.1, slots := h1.2.1 - h.2.1, locals := d * 64 }) (hc_Pc D cA base b0 adK adV sL xs vs h) (hc_Qc D cA base b0 adK sL xs v1 h1) (h1.1 - h.1) (h1.2.1 - h.2.1) (fun q => base ≤ q) := by
  obtain ⟨hh, hall, hcode⟩ := hj
  have hh' := hh
  simp only [hc_okh, Bool.and_eq_true] at hh'
  refine Met.ofW (cc := mj.2.1) (maxL := mj.2.2.1) (ret := mj.2.2.2.1) hh'.1.1.1.1.1 rfl ?_
  intro p e s m args below meth c s₁ B hml hv
  obtain ⟨hsr, hrel, hX⟩ := hv
  have hts0 := atoms_spec (ws := Cond.code mj.1 mj.2.1 mj.2.2.1 mj.2.2.2.1 :: hc_TB) B.pre
  have hts : ∀ w ∈ lw_tbl, goodWord w = true → w.before args s = true := fun w h1 h2 => hts0 w (List.mem_cons_of_mem _ (List.mem_filter.mpr ⟨h1, h2⟩))
  have hlocks := B.notSynchronized
  have hr := B.returns
  have hb := B.bytes
  have hx := B.exec
  have hargs : args = args.toList.toArray := by simp
  have hname : mj.2.2.2.2.1 = 2 → meth.name = "<init>" := by
    intro h2
    rw [(name_of_methodNamed B.named B.method).1]
    have hq := hh'.2
    split at hq
    next w0 w1 w2 w3 hw =>
      rw [Bool.and_eq_true] at hq
      have hq2 := hq.2
      rw [h2] at hq2
      simp only [Bool.and_eq_true, decide_eq_true_eq] at hq2
      exact hq2.1.2
    next => cases hq
  have hC : hc_C D cA base b0 adK adV sL xs mj p s m args meth c (headSpec (Cond.code mj.1 mj.2.1 mj.2.2.1 mj.2.2.2.1 :: hc_TB) { frames := d, cells := h1.1 - h.1, slots := h1.2.1 - h.2.1, locals := d * 64 }).room d :=
    ⟨hx, hb, hml, findClass_of_methodNamed B.named, hts, hX, ⟨Nat.le_refl _, Nat.le_refl _⟩, hname⟩
  rw [show entryFrame m args mj.2.2.1 = entryFrame m args.toList.toArray mj.2.2.1 by rw [← hargs], lg_entry_eq]
  refine IH d mj 0 _ [] h v1 h1 hrun hall hC ⟨hc_ent_lr hsr hl, trivial, hrel, va_S.rf, rfl⟩ ⟨by show 0 + _ ≤ h1.1 - h.1; omega, by show 0 + _ ≤ h1.2.1 - h.2.1; omega⟩ ?_
  intro pcr I L1 st1 ls stk H locs hI hk hat
  have hok := hall pcr I hI
  rw [Nat.zero_add, Nat.zero_add]
  obtain ⟨nx, ins, a, b, w, u⟩ := I
  obtain ⟨k1, k2, k3, k4, k5⟩ := hat
  have hQ : ∀ (w : Option Value), hc_sr (hc_ad base b0 adK) v1 w.toList → ∀ t : State, t.heap = H → s.WarmedH t.vm → hc_Qc D cA base b0 adK sL xs v1 h1 args s (.returned w) t := fun w hw t ht _ => ⟨w, rfl, hw, by rw [ht]; exact k3, k4.F ht⟩
  have hloc : ∀ q ∈ locs, base ≤ q.base := k4.2.2
  cases ins with
  | ireturn =>
    obtain ⟨hdg, -, -⟩ := hc_un (i := .ireturn) (n := 1) (nx := nx) hok
    obtain ⟨x, rfl, e2, t, ht, hn⟩ := hc_rti_sp hk
    obtain ⟨w1, ws, rfl, ⟨z, rfl, hz⟩, hs2⟩ := hc_sr_cons k2
    cases hc_sr_nil hs2
    exact W.zret hx hb (hr.trans ht) (hn z hz) (hQ (some (.int z)) (by rw [e2]; exact ⟨hc_mkI hz, trivial⟩)) hloc hdg
  | lreturn =>
    obtain ⟨hdg, -, -⟩ := hc_un (i := .lreturn) (n := 1) (nx := nx) hok
    obtain ⟨x, rfl, e2, ht⟩ := hc_rtl_sp hk
    obtain ⟨w1, ws, rfl, ⟨z, rfl, hz⟩, hs2⟩ := hc_sr_cons k2
    cases hc_sr_nil hs2
    exact W.lret hx hb (hr.trans ht) (hQ (some (.long z)) (by rw [e2]; exact ⟨hc_mkL hz, trivial⟩)) hloc hdg
  | areturn =>
    obtain ⟨hdg, -, -⟩ := hc_un (i := .areturn) (n := 1) (nx := nx) hok
    obtain ⟨r, rfl, e2, t, ht, hrt⟩ := hc_rta_sp hk
    obtain ⟨w1, ws, rfl, hw1, hs2⟩ := hc_sr_cons k2
    cases hc_sr_nil hs2
    refine W.aret hx hb (hr.trans ht) hrt ?_ (hQ (some w1) (by rw [e2]; exact ⟨hw1, trivial⟩)) hloc hdg
    cases r with
    | none => exact Or.inl hw1
    | some r => exact Or.inr ⟨_, hw1⟩
  | return_ =>
    obtain ⟨hdg, -, -⟩ := hc_un (i := .return_) (n := 1) (nx := nx) hok
    obtain ⟨rfl, e2, ht⟩ := hc_rtv_sp hk
    cases hc_sr_nil k2
    exact W.vret hx hb (hr.trans ht) (hQ none (by rw [e2]; exact trivial)) hloc hdg
  | _ =>
    exfalso
    first
    | (cases hk; done)
    | exact hc_noret (by intro h; cases h) (by intro h; cases h) (by intro h; cases h) (by intro h; cases h) hk
end SV
