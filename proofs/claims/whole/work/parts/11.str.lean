/-! the library's Strings: length and charAt of a constant -/
abbrev hc_TB : List Cond := lw_tbl.filter goodWord
theorem hc_GI {y : MethodName} {bytes : ByteArray} {maxL : Nat} {ret : Option FieldType} (h : Cond.code y bytes maxL ret ∈ hc_TB) : GoodIn hc_TB (Cond.code y bytes maxL ret :: hc_TB) := by
  intro w hw
  have h1 : w ∈ hc_TB := by
    rcases List.mem_cons.mp hw with rfl | q
    · exact h
    · exact q
  exact ⟨h1, good_of_word (List.mem_filter.mp h1).2⟩
theorem hc_inTB {i : Nat} {w : Cond} (h1 : hc_gt lw_tbl i = some w) (h2 : goodWord w = true) : w ∈ hc_TB := by
  rw [hc_gt_eq] at h1
  exact List.mem_filter.mpr ⟨List.mem_of_getElem? h1, h2⟩
def wsS_ (y : MethodName) (cc : ByteArray) (n : Nat) (r : Option FieldType) : List Cond := Cond.code y cc n r :: hc_TB
set_option maxRecDepth 100000 in
theorem sw_coder : Cond.code yJ0_coder_7d493 cJ0_coder_7d493 1 (some .byte) ∈ hc_TB := hc_inTB (i := 503) rfl rfl
set_option maxRecDepth 100000 in
theorem sw_latin : Cond.code yJ0_isLatin1_aae02 cJ0_isLatin1_aae02 1 (some .boolean) ∈ hc_TB := hc_inTB (i := 513) rfl rfl
set_option maxRecDepth 100000 in
theorem sw_length : Cond.code yJ0_length_8abf5 cJ0_length_8abf5 1 (some .int) ∈ hc_TB := hc_inTB (i := 499) rfl rfl
set_option maxRecDepth 100000 in
theorem sw_charAt : Cond.code yJ0_charAt_5068e cJ0_charAt_5068e 2 (some .char) ∈ hc_TB := hc_inTB (i := 509) rfl rfl
set_option maxRecDepth 100000 in
theorem sw_chk : Cond.code yJ0_checkIndex_df160 cJ0_checkIndex_df160 2 none ∈ hc_TB := hc_inTB (i := 519) rfl rfl
set_option maxRecDepth 100000 in
theorem sw_pre : Cond.code yJ3_checkIndex_8e157 cJ3_checkIndex_8e157 3 (some .int) ∈ hc_TB := hc_inTB (i := 524) rfl rfl
set_option maxRecDepth 100000 in
theorem sw_l1 : Cond.code yJ1_charAt_3b067 cJ1_charAt_3b067 2 (some .char) ∈ hc_TB := hc_inTB (i := 516) rfl rfl
theorem sw_in (i : Nat) (w : Cond) (h : (decide (hc_gt lw_tbl i = some w) && goodWord w) = true) : w ∈ hc_TB := by
  simp only [Bool.and_eq_true, decide_eq_true_eq] at h
  exact hc_inTB h.1 h.2
section ST
variable {D : va_G} {cA : Nat → ClassId} {base b0 : Nat} {adK adV : Nat → Nat} {sL : Nat} {xs : Nat → Int32}
set_option maxRecDepth 100000 in
theorem sc_coder (l : Launch) (i : Nat) (hi : i < 21) : Met l yJ0_coder_7d493 (wsS_ yJ0_coder_7d493 cJ0_coder_7d493 1 (some .byte)) (k2_rm 0 0) (va_Pc [.ref (adK i)] (fun U => hc_X D cA base b0 adK adV sL xs U)) (k2_QcV (.int 0)) 0 0 (fun _ => False) := by
  refine Met.ofW (cc := cJ0_coder_7d493) (maxL := 1) (ret := some .byte) (by decide) rfl ?_
  intro p e s m args below meth c s₁ B hml hv
  obtain ⟨rfl, hX⟩ := hv
  have hx := B.exec
  have hb := B.bytes
  have hr := B.returns
  have hts0 := atoms_spec (ws := wsS_ yJ0_coder_7d493 cJ0_coder_7d493 1 (some .byte)) B.pre
  have hts : ∀ w ∈ hc_TB, w.before _ s = true := fun w hw => hts0 w (List.mem_cons_of_mem _ hw)
  have hown : s.vm.findClass "java/lang/String" = some m.cls := findClass_of_methodNamed B.named
  have hlocks := B.notSynchronized
  have hS : va_S (fun q => base ≤ q) s.heap s.heap [] := va_S.rf
  have hl := lv_entry ([.ref (adK i)]) (n := 1) (Nat.le_of_ble_eq_true rfl)
  rw [lg_entry_eq]
  generalize (lg_sl ([.ref (adK i)]) ++ List.replicate (1 - (lg_sl ([.ref (adK i)])).length) Slot.unset).toArray = ls at hl ⊢
  have hl : lv_has ls 1 [(0, .ref (adK i))] := hl
  refine va_gets hx hb hX.2.2.2.2.1.1 hS hown (hts (.fieldLink "java/lang/String" 38 "java/lang/String" "COMPACT_STRINGS" "Z") (sw_in 504 _ (by decide +kernel))) (fun _ q => q) (by decide +kernel : decode cJ0_coder_7d493 0 = .ok (.getstatic 38, 3)) ?_
  refine lv_if_eq (tgt := 13) hx hb (by decide +kernel : decode cJ0_coder_7d493 3 = .ok (.ifCond .eq 10, 3)) (by decide) (fun q => absurd q (by decide)) (fun _ => ?_)
  refine lv_aload_n hx hb (by decide +kernel : decode cJ0_coder_7d493 6 = .ok (.aload_n 0, 1)) rfl (lv_at hl 0 rfl) ?_
  refine vk_getf hx hb (hX.2.2.1.1.1 i hi).2.1 hS hown (hts (.fieldLink "java/lang/String" 15 "java/lang/String" "coder" "B") (sw_in 1473 _ (by decide +kernel))) (fun _ q => q) (by decide +kernel : decode cJ0_coder_7d493 7 = .ok (.getfield 15, 3)) ?_
  refine lv_goto (tgt := 14) hx hb (by decide +kernel : decode cJ0_coder_7d493 10 = .ok (.goto 4, 3)) (by decide) ?_
  exact W.zret hx hb hr (by decide) (fun t ht _ => ⟨rfl, ht⟩) (fun _ h => by cases h) (by decide +kernel : decode cJ0_coder_7d493 14 = .ok (.ireturn, 1))
set_option maxRecDepth 100000 in
theorem sc_latin (l : Launch) (i : Nat) (hi : i < 21) : Met l yJ0_isLatin1_aae02 (wsS_ yJ0_isLatin1_aae02 cJ0_isLatin1_aae02 1 (some .boolean)) (k2_rm 0 0) (va_Pc [.ref (adK i)] (fun U => hc_X D cA base b0 adK adV sL xs U)) (k2_QcV (.int 1)) 0 0 (fun _ => False) := by
  refine Met.ofW (cc := cJ0_isLatin1_aae02) (maxL := 1) (ret := some .boolean) (by decide) rfl ?_
  intro p e s m args below meth c s₁ B hml hv
  obtain ⟨rfl, hX⟩ := hv
  have hx := B.exec
  have hb := B.bytes
  have hr := B.returns
  have hts0 := atoms_spec (ws := wsS_ yJ0_isLatin1_aae02 cJ0_isLatin1_aae02 1 (some .boolean)) B.pre
  have hts : ∀ w ∈ hc_TB, w.before _ s = true := fun w hw => hts0 w (List.mem_cons_of_mem _ hw)
  have hown : s.vm.findClass "java/lang/String" = some m.cls := findClass_of_methodNamed B.named
  have hlocks := B.notSynchronized
  have hS : va_S (fun q => base ≤ q) s.heap s.heap [] := va_S.rf
  have hl := lv_entry ([.ref (adK i)]) (n := 1) (Nat.le_of_ble_eq_true rfl)
  rw [lg_entry_eq]
  generalize (lg_sl ([.ref (adK i)]) ++ List.replicate (1 - (lg_sl ([.ref (adK i)])).length) Slot.unset).toArray = ls at hl ⊢
  have hl : lv_has ls 1 [(0, .ref (adK i))] := hl
  refine va_gets hx hb hX.2.2.2.2.1.1 hS hown (hts (.fieldLink "java/lang/String" 38 "java/lang/String" "COMPACT_STRINGS" "Z") (sw_in 504 _ (by decide +kernel))) (fun _ q => q) (by decide +kernel : decode cJ0_isLatin1_aae02 0 = .ok (.getstatic 38, 3)) ?_
  refine lv_if_eq (tgt := 17) hx hb (by decide +kernel : decode cJ0_isLatin1_aae02 3 = .ok (.ifCond .eq 14, 3)) (by decide) (fun q => absurd q (by decide)) (fun _ => ?_)
  refine lv_aload_n hx hb (by decide +kernel : decode cJ0_isLatin1_aae02 6 = .ok (.aload_n 0, 1)) rfl (lv_at hl 0 rfl) ?_
  refine vk_getf hx hb (hX.2.2.1.1.1 i hi).2.1 hS hown (hts (.fieldLink "java/lang/String" 15 "java/lang/String" "coder" "B") (sw_in 1473 _ (by decide +kernel))) (fun _ q => q) (by decide +kernel : decode cJ0_isLatin1_aae02 7 = .ok (.getfield 15, 3)) ?_
  refine lv_if_ne (tgt := 17) hx hb (by decide +kernel : decode cJ0_isLatin1_aae02 10 = .ok (.ifCond .ne 7, 3)) (by decide) (fun q => absurd q (by decide)) (fun _ => ?_)
  refine lv_iconst (v := 1) hx hb (by decide +kernel : decode cJ0_isLatin1_aae02 13 = .ok (.iconst 1, 1)) (by decide) ?_
  refine lv_goto (tgt := 18) hx hb (by decide +kernel : decode cJ0_isLatin1_aae02 14 = .ok (.goto 4, 3)) (by decide) ?_
  exact W.zret hx hb hr (by decide) (fun t ht _ => ⟨rfl, ht⟩) (fun _ h => by cases h) (by decide +kernel : decode cJ0_isLatin1_aae02 18 = .ok (.ireturn, 1))
theorem hc_blind {as : List Value} : FrameBlind (va_Pc as (fun U => hc_X D cA base b0 adK adV sL xs U)) := fun a U g mk q => ⟨q.1, q.2.calling g mk a⟩
theorem hc_lenT (i : Nat) : hc_lens.getD i 0 = (hc_SB.getD i []).length := by
  simp only [hc_lens, List.getD_eq_getElem?_getD, List.getElem?_map]
  cases hc_SB[i]? <;> rfl
theorem hc_lenB : ∀ i, i < 21 → (hc_SB.getD i []).length ≤ 7 := by decide
set_option maxRecDepth 100000 in
theorem sc_length (l : Launch) (i : Nat) (hi : i < 21) : Met l yJ0_length_8abf5 (wsS_ yJ0_length_8abf5 cJ0_length_8abf5 1 (some .int)) (k2_rm 1 24) (va_Pc [.ref (adK i)] (fun U => hc_X D cA base b0 adK adV sL xs U)) (k2_QcV (.int (nI (hc_SB.getD i []).length))) 0 0 (fun _ => False) := by
  refine Met.ofW (cc := cJ0_length_8abf5) (maxL := 1) (ret := some .int) (by decide) rfl ?_
  intro p e s m args below meth c s₁ B hml hv
  obtain ⟨rfl, hX⟩ := hv
  have hx := B.exec
  have hb := B.bytes
  have hr := B.returns
  have hts0 := atoms_spec (ws := wsS_ yJ0_length_8abf5 cJ0_length_8abf5 1 (some .int)) B.pre
  have hts : ∀ w ∈ hc_TB, w.before _ s = true := fun w hw => hts0 w (List.mem_cons_of_mem _ hw)
  have hown : s.vm.findClass "java/lang/String" = some m.cls := findClass_of_methodNamed B.named
  have hlocks := B.notSynchronized
  have hS : va_S (fun q => base ≤ q) s.heap s.heap [] := va_S.rf
  have hl := lv_entry ([.ref (adK i)]) (n := 1) (Nat.le_of_ble_eq_true rfl)
  rw [lg_entry_eq]
  generalize (lg_sl ([.ref (adK i)]) ++ List.replicate (1 - (lg_sl ([.ref (adK i)])).length) Slot.unset).toArray = ls at hl ⊢
  have hl : lv_has ls 1 [(0, .ref (adK i))] := hl
  obtain ⟨s1, s2, s3, s4⟩ := hX.2.2.1.1.1 i hi
  refine lv_aload_n hx hb (by decide +kernel : decode cJ0_length_8abf5 0 = .ok (.aload_n 0, 1)) rfl (lv_at hl 0 rfl) ?_
  refine vk_getf hx hb s3 hS hown (hts (.fieldLink "java/lang/String" 9 "java/lang/String" "value" "[B") (sw_in 1472 _ (by decide +kernel))) (fun _ q => q) (by decide +kernel : decode cJ0_length_8abf5 1 = .ok (.getfield 9, 3)) ?_
  refine va_tlen hx hb s4 hS rfl (by decide +kernel : decode cJ0_length_8abf5 4 = .ok (.arraylength, 1)) ?_
  refine lv_aload_n hx hb (by decide +kernel : decode cJ0_length_8abf5 5 = .ok (.aload_n 0, 1)) rfl (lv_at hl 0 rfl) ?_
  refine W.callV (W.runV (As := []) (b := adK i) (C := "java/lang/String") (rest := [.int (Int32.ofNat (hc_lens.getD i 0))]) (nL := 1) (Ts := hc_TB) ⟨hx, hb, hml, hown, hts⟩ (sc_coder l i hi) ⟨callB_of 0 hts (hc_GI sw_coder) rfl rfl rfl (hts _ (sw_in 102 (.initialized "java/lang/String") (by decide +kernel))) (hts _ (sw_in 500 (.methodLink "java/lang/String" 335 yJ0_coder_7d493) (by decide +kernel))) (by decide +kernel) ⟨Nat.le_of_ble_eq_true rfl, Nat.le_of_ble_eq_true rfl⟩, hts _ (sw_in 501 (.instanceMethod yJ0_coder_7d493) (by decide +kernel)), hts _ (sw_in 502 (.selects "java/lang/String" yJ0_coder_7d493 yJ0_coder_7d493) (by decide +kernel))⟩ ⟨hc_blind, vk_recv hX.2.2.1.1 hi hS, fun U hU hW => ⟨rfl, hX.moved hW (by rw [hU]; exact hS)⟩⟩ rfl rfl hl.1 rfl (lv_room (Nat.le_of_ble_eq_true rfl)) (by decide +kernel : decode cJ0_length_8abf5 6 = .ok (.invokevirtual 335, 3)) ⟨Nat.zero_le _, Nat.zero_le _⟩) ?_
  refine lv_ishr hx hb (by decide +kernel : decode cJ0_length_8abf5 9 = .ok (.ishr, 1)) ?_
  have hsh : Int32.ofNat (hc_lens.getD i 0) >>> ((0 : Int32) &&& 31) = nI (hc_SB.getD i []).length := by
    rw [hc_lenT]
    apply Int32.toInt_inj.mp
    show _ = (Int32.ofNat _).toInt
    simp
  rw [hsh]
  exact W.iret hx hb hr (fun t ht _ => ⟨rfl, ht⟩) (fun _ h => by cases h) (by decide +kernel : decode cJ0_length_8abf5 10 = .ok (.ireturn, 1))
set_option maxRecDepth 100000 in
theorem sc_pre (l : Launch) (x y : Int32) (w : Value) (hw : w = .null ∨ ∃ t, w = .ref t) (h1 : ¬ x < 0) (h2 : x < y) : Met l yJ3_checkIndex_8e157 (wsS_ yJ3_checkIndex_8e157 cJ3_checkIndex_8e157 3 (some .int)) (k2_rm 0 0) (va_Pc [.int x, .int y, w] (fun U => hc_X D cA base b0 adK adV sL xs U)) (k2_QcV (.int x)) 0 0 (fun _ => False) := by
  refine Met.ofW (cc := cJ3_checkIndex_8e157) (maxL := 3) (ret := some .int) (by decide) rfl ?_
  intro p e s m args below meth c s₁ B hml hv
  obtain ⟨rfl, hX⟩ := hv
  have hx := B.exec
  have hb := B.bytes
  have hr := B.returns
  have hlocks := B.notSynchronized
  have hl : ∃ ls, entryFrame m ([.int x, .int y, w] : List Value).toArray 3 = F0 m 0 ls [] ∧ lv_has ls 3 [(0, .int x), (1, .int y), (2, w)] := by
    rcases hw with rfl | ⟨t, rfl⟩
    · exact ⟨_, lg_entry_eq m _ 3, lv_entry ([.int x, .int y, .null]) (n := 3) (Nat.le_of_ble_eq_true rfl)⟩
    · exact ⟨_, lg_entry_eq m _ 3, lv_entry ([.int x, .int y, .ref t]) (n := 3) (Nat.le_of_ble_eq_true rfl)⟩
  obtain ⟨ls, hle, hl⟩ := hl
  rw [hle]
  refine lv_iload_n hx hb (by decide +kernel : decode cJ3_checkIndex_8e157 0 = .ok (.iload_n 0, 1)) rfl (lv_at hl 0 rfl) ?_
  refine lv_if_lt (tgt := 9) hx hb (by decide +kernel : decode cJ3_checkIndex_8e157 1 = .ok (.ifCond .lt 8, 3)) (by decide) (fun q => absurd q h1) (fun _ => ?_)
  refine lv_iload_n hx hb (by decide +kernel : decode cJ3_checkIndex_8e157 4 = .ok (.iload_n 0, 1)) rfl (lv_at hl 0 rfl) ?_
  refine lv_iload_n hx hb (by decide +kernel : decode cJ3_checkIndex_8e157 5 = .ok (.iload_n 1, 1)) rfl (lv_at hl 1 rfl) ?_
  refine lv_icmp_lt (tgt := 16) hx hb (by decide +kernel : decode cJ3_checkIndex_8e157 6 = .ok (.if_icmp .lt 10, 3)) (by decide) (fun _ => ?_) (fun q => absurd h2 q)
  refine lv_iload_n hx hb (by decide +kernel : decode cJ3_checkIndex_8e157 16 = .ok (.iload_n 0, 1)) rfl (lv_at hl 0 rfl) ?_
  exact W.iret hx hb hr (fun t ht _ => ⟨rfl, ht⟩) (fun _ h => by cases h) (by decide +kernel : decode cJ3_checkIndex_8e157 17 = .ok (.ireturn, 1))
def hc_Qv0 : Array Value → State → Outcome → State → Prop := fun _ st o t => o = .returned none ∧ t.heap = st.heap
theorem hc_callV0 {p : Program} {l : Launch} {e : Env} {R : Room} {s : State} {m : MethodId} {args : Array Value} {below : List Frame} {meth : Method} {c : Code} {H : Heap} {locs : List Loc} {cells slots : Nat} {Q : State → Prop} {g : JFrame} {rest : List Value} {a : Array Value} (hr : CallRun p l e R s m args below meth c H locs cells slots 0 0 g rest (hc_Qv0 a) (fun _ => False)) (kk : W p l e R s m args below meth c H locs cells slots Q { g with pc := g.pc + 3, stack := rest }) : W p l e R s m args below meth c H locs cells slots Q g := by
  intro T hT X
  obtain ⟨v, st₀, t, T', L, h0, X', hL, e1, ⟨hv, hh⟩, st⟩ := hr T hT X
  cases hv
  obtain ⟨t2, a1, b1⟩ := kk T' (by rw [e1, hh, h0]) (Stand.forget X' (fun q h => (hL q h).elim))
  exact ⟨t2, st t2 a1, b1⟩
set_option maxRecDepth 100000 in
theorem sc_chk (l : Launch) (x y : Int32) (h1 : ¬ x < 0) (h2 : x < y) : Met l yJ0_checkIndex_df160 (wsS_ yJ0_checkIndex_df160 cJ0_checkIndex_df160 2 none) (k2_rm 1 24) (va_Pc [.int x, .int y] (fun U => hc_X D cA base b0 adK adV sL xs U)) hc_Qv0 0 0 (fun _ => False) := by
  refine Met.ofW (cc := cJ0_checkIndex_df160) (maxL := 2) (ret := none) (by decide) rfl ?_
  intro p e s m args below meth c s₁ B hml hv
  obtain ⟨rfl, hX⟩ := hv
  have hx := B.exec
  have hb := B.bytes
  have hr := B.returns
  have hts0 := atoms_spec (ws := wsS_ yJ0_checkIndex_df160 cJ0_checkIndex_df160 2 none) B.pre
  have hts : ∀ w ∈ hc_TB, w.before _ s = true := fun w hw => hts0 w (List.mem_cons_of_mem _ hw)
  have hown : s.vm.findClass "java/lang/String" = some m.cls := findClass_of_methodNamed B.named
  have hlocks := B.notSynchronized
  have hS : va_S (fun q => base ≤ q) s.heap s.heap [] := va_S.rf
  have hl := lv_entry ([.int x, .int y]) (n := 2) (Nat.le_of_ble_eq_true rfl)
  rw [lg_entry_eq]
  generalize (lg_sl ([.int x, .int y]) ++ List.replicate (2 - (lg_sl ([.int x, .int y])).length) Slot.unset).toArray = ls at hl ⊢
  have hl : lv_has ls 2 [(0, .int x), (1, .int y)] := hl
  refine lv_iload_n hx hb (by decide +kernel : decode cJ0_checkIndex_df160 0 = .ok (.iload_n 0, 1)) rfl (lv_at hl 0 rfl) ?_
  refine lv_iload_n hx hb (by decide +kernel : decode cJ0_checkIndex_df160 1 = .ok (.iload_n 1, 1)) rfl (lv_at hl 1 rfl) ?_
  have hz : ∃ w : Value, (w = .null ∨ ∃ t, w = .ref t) ∧ va_Z "jdk/internal/util/Preconditions" "SIOOBE_FORMATTER" "Ljava/util/function/BiFunction;" w (fun q => base ≤ q) s s.heap := by
    rcases hX.2.2.2.2.1.2 with h | ⟨t, h⟩
    · exact ⟨_, Or.inl rfl, h⟩
    · exact ⟨_, Or.inr ⟨t, rfl⟩, h⟩
  obtain ⟨w, hw, hz⟩ := hz
  refine va_gets hx hb hz hS hown (hts (.fieldLink "java/lang/String" 1053 "jdk/internal/util/Preconditions" "SIOOBE_FORMATTER" "Ljava/util/function/BiFunction;") (sw_in 520 _ (by decide +kernel))) (fun _ q => q) (by decide +kernel : decode cJ0_checkIndex_df160 2 = .ok (.getstatic 1053, 3)) ?_
  refine W.callV (W.runS (As := [.int x, .int y, w]) (rest := []) (nL := 2) (Ts := hc_TB) ⟨hx, hb, hml, hown, hts⟩ (sc_pre l x y w hw h1 h2) ⟨callB_of 3 hts (hc_GI sw_pre) rfl rfl rfl (hts _ (sw_in 104 (.initialized "jdk/internal/util/Preconditions") (by decide +kernel))) (hts _ (sw_in 522 (.methodLink "java/lang/String" 1059 yJ3_checkIndex_8e157) (by decide +kernel))) (by decide +kernel) ⟨Nat.le_of_ble_eq_true rfl, Nat.le_of_ble_eq_true rfl⟩, hts _ (sw_in 523 (.static yJ3_checkIndex_8e157) (by decide +kernel))⟩ ⟨hc_blind, fun U hU hW => ⟨rfl, hX.moved hW (by rw [hU]; exact hS)⟩⟩ rfl rfl hl.1 rfl (lv_room (Nat.le_of_ble_eq_true rfl)) (by decide +kernel : decode cJ0_checkIndex_df160 5 = .ok (.invokestatic 1059, 3)) ⟨Nat.zero_le _, Nat.zero_le _⟩) ?_
  refine lv_pop hx hb (by decide +kernel : decode cJ0_checkIndex_df160 8 = .ok (.pop, 1)) rfl ?_
  exact W.vret hx hb hr (fun t ht _ => ⟨rfl, ht⟩) (fun _ h => by cases h) (by decide +kernel : decode cJ0_checkIndex_df160 9 = .ok (.return_, 1))
theorem hc_byt (i j : Nat) : (hc_byts.getD i []).getD j 0 = Int32.ofInt ((hc_SB.getD i []).getD j 0) := by
  simp only [hc_byts, List.getD_eq_getElem?_getD, List.getElem?_map]
  cases h : hc_SB[i]? with
  | none => simp
  | some l =>
    simp only [Option.map_some, Option.getD_some, List.getElem?_map]
    cases l[j]? with
    | none => rfl
    | some v => rfl
theorem hc_chr : ∀ i, i < 21 → ∀ j, j < 7 → ((Int32.ofInt ((hc_SB.getD i []).getD j 0) &&& 255).toUInt32 % 65536).toInt32 = Int32.ofInt ((hc_SB.getD i []).getD j 0) ∧ narrow .char (.int (Int32.ofInt ((hc_SB.getD i []).getD j 0))) = .int (Int32.ofInt ((hc_SB.getD i []).getD j 0)) ∧ (Int32.ofInt ((hc_SB.getD i []).getD j 0)).toInt = (hc_SB.getD i []).getD j 0 := by decide +kernel
set_option maxRecDepth 100000 in
theorem sc_l1 (l : Launch) (i : Nat) (hi : i < 21) (k : Int32) (h1 : ¬ k < 0) (h2 : k.toNatClampNeg < (hc_SB.getD i []).length) : Met l yJ1_charAt_3b067 (wsS_ yJ1_charAt_3b067 cJ1_charAt_3b067 2 (some .char)) (k2_rm 2 48) (va_Pc [.ref (adV i), .int k] (fun U => hc_X D cA base b0 adK adV sL xs U)) (k2_QcV (.int (Int32.ofInt ((hc_SB.getD i []).getD k.toNatClampNeg 0)))) 0 0 (fun _ => False) := by
  refine Met.ofW (cc := cJ1_charAt_3b067) (maxL := 2) (ret := some .char) (by decide) rfl ?_
  intro p e s m args below meth c s₁ B hml hv
  obtain ⟨rfl, hX⟩ := hv
  have hx := B.exec
  have hb := B.bytes
  have hr := B.returns
  have hts0 := atoms_spec (ws := wsS_ yJ1_charAt_3b067 cJ1_charAt_3b067 2 (some .char)) B.pre
  have hts : ∀ w ∈ hc_TB, w.before _ s = true := fun w hw => hts0 w (List.mem_cons_of_mem _ hw)
  have hown : s.vm.findClass "java/lang/StringLatin1" = some m.cls := findClass_of_methodNamed B.named
  have hlocks := B.notSynchronized
  have hS : va_S (fun q => base ≤ q) s.heap s.heap [] := va_S.rf
  have hl := lv_entry ([.ref (adV i), .int k]) (n := 2) (Nat.le_of_ble_eq_true rfl)
  rw [lg_entry_eq]
  generalize (lg_sl ([.ref (adV i), .int k]) ++ List.replicate (2 - (lg_sl ([.ref (adV i), .int k])).length) Slot.unset).toArray = ls at hl ⊢
  have hl : lv_has ls 2 [(0, .ref (adV i)), (1, .int k)] := hl
  obtain ⟨s1, s2, s3, s4⟩ := hX.2.2.1.1.1 i hi
  have hb7 := hc_lenB i hi
  have hlt : k < Int32.ofNat (hc_lens.getD i 0) := by
    rw [hc_lenT, Int32.lt_iff_toInt_lt, hc_nT (by omega)]
    have h0 : (0 : Int) ≤ k.toInt := by
      have := Int32.not_lt.mp h1
      simpa using Int32.le_iff_toInt_le.mp this
    have : k.toNatClampNeg = k.toInt.toNat := rfl
    omega
  refine lv_iload_n hx hb (by decide +kernel : decode cJ1_charAt_3b067 0 = .ok (.iload_n 1, 1)) rfl (lv_at hl 1 rfl) ?_
  refine lv_aload_n hx hb (by decide +kernel : decode cJ1_charAt_3b067 1 = .ok (.aload_n 0, 1)) rfl (lv_at hl 0 rfl) ?_
  refine va_tlen hx hb s4 hS rfl (by decide +kernel : decode cJ1_charAt_3b067 2 = .ok (.arraylength, 1)) ?_
  refine hc_callV0 (W.runS (As := [.int k, .int (Int32.ofNat (hc_lens.getD i 0))]) (rest := []) (nL := 2) (Ts := hc_TB) ⟨hx, hb, hml, hown, hts⟩ (sc_chk l k _ h1 hlt) ⟨callB_of 2 hts (hc_GI sw_chk) rfl rfl rfl (hts _ (sw_in 102 (.initialized "java/lang/String") (by decide +kernel))) (hts _ (sw_in 517 (.methodLink "java/lang/StringLatin1" 9 yJ0_checkIndex_df160) (by decide +kernel))) (by decide +kernel) ⟨Nat.le_of_ble_eq_true rfl, Nat.le_of_ble_eq_true rfl⟩, hts _ (sw_in 518 (.static yJ0_checkIndex_df160) (by decide +kernel))⟩ ⟨hc_blind, fun U hU hW => ⟨rfl, hX.moved hW (by rw [hU]; exact hS)⟩⟩ rfl rfl hl.1 rfl (lv_room (Nat.le_of_ble_eq_true rfl)) (by decide +kernel : decode cJ1_charAt_3b067 3 = .ok (.invokestatic 9, 3)) ⟨Nat.zero_le _, Nat.zero_le _⟩) ?_
  refine lv_aload_n hx hb (by decide +kernel : decode cJ1_charAt_3b067 6 = .ok (.aload_n 0, 1)) rfl (lv_at hl 0 rfl) ?_
  refine lv_iload_n hx hb (by decide +kernel : decode cJ1_charAt_3b067 7 = .ok (.iload_n 1, 1)) rfl (lv_at hl 1 rfl) ?_
  refine va_tb hx hb s4 hS (show vp_in k _ by rw [hc_lenT]; exact fun q => q.elim h1 (fun q => by omega)) rfl (by decide +kernel : decode cJ1_charAt_3b067 8 = .ok (.baload, 1)) ?_
  obtain ⟨e1, e2, e3⟩ := hc_chr i hi k.toNatClampNeg (by omega)
  rw [hc_byt]
  refine lv_sipush (v := 255) hx hb (by decide +kernel : decode cJ1_charAt_3b067 9 = .ok (.sipush 255, 3)) (by decide) ?_
  refine lv_iand hx hb (by decide +kernel : decode cJ1_charAt_3b067 12 = .ok (.iand, 1)) ?_
  refine lv_i2c hx hb (by decide +kernel : decode cJ1_charAt_3b067 13 = .ok (.i2c, 1)) e1 ?_
  exact W.zret hx hb hr e2 (fun t ht _ => ⟨rfl, ht⟩) (fun _ h => by cases h) (by decide +kernel : decode cJ1_charAt_3b067 14 = .ok (.ireturn, 1))
set_option maxRecDepth 100000 in
theorem sc_charAt (l : Launch) (i : Nat) (hi : i < 21) (k : Int32) (h1 : ¬ k < 0) (h2 : k.toNatClampNeg < (hc_SB.getD i []).length) : Met l yJ0_charAt_5068e (wsS_ yJ0_charAt_5068e cJ0_charAt_5068e 2 (some .char)) (k2_rm 3 72) (va_Pc [.ref (adK i), .int k] (fun U => hc_X D cA base b0 adK adV sL xs U)) (k2_QcV (.int (Int32.ofInt ((hc_SB.getD i []).getD k.toNatClampNeg 0)))) 0 0 (fun _ => False) := by
  refine Met.ofW (cc := cJ0_charAt_5068e) (maxL := 2) (ret := some .char) (by decide) rfl ?_
  intro p e s m args below meth c s₁ B hml hv
  obtain ⟨rfl, hX⟩ := hv
  have hx := B.exec
  have hb := B.bytes
  have hr := B.returns
  have hts0 := atoms_spec (ws := wsS_ yJ0_charAt_5068e cJ0_charAt_5068e 2 (some .char)) B.pre
  have hts : ∀ w ∈ hc_TB, w.before _ s = true := fun w hw => hts0 w (List.mem_cons_of_mem _ hw)
  have hown : s.vm.findClass "java/lang/String" = some m.cls := findClass_of_methodNamed B.named
  have hlocks := B.notSynchronized
  have hS : va_S (fun q => base ≤ q) s.heap s.heap [] := va_S.rf
  have hl := lv_entry ([.ref (adK i), .int k]) (n := 2) (Nat.le_of_ble_eq_true rfl)
  rw [lg_entry_eq]
  generalize (lg_sl ([.ref (adK i), .int k]) ++ List.replicate (2 - (lg_sl ([.ref (adK i), .int k])).length) Slot.unset).toArray = ls at hl ⊢
  have hl : lv_has ls 2 [(0, .ref (adK i)), (1, .int k)] := hl
  obtain ⟨s1, s2, s3, s4⟩ := hX.2.2.1.1.1 i hi
  have hb7 := hc_lenB i hi
  refine lv_aload_n hx hb (by decide +kernel : decode cJ0_charAt_5068e 0 = .ok (.aload_n 0, 1)) rfl (lv_at hl 0 rfl) ?_
  refine W.callV (W.runV (As := []) (b := adK i) (C := "java/lang/String") (rest := []) (nL := 2) (Ts := hc_TB) ⟨hx, hb, hml, hown, hts⟩ (sc_latin l i hi) ⟨callB_of 0 hts (hc_GI sw_latin) rfl rfl rfl (hts _ (sw_in 102 (.initialized "java/lang/String") (by decide +kernel))) (hts _ (sw_in 510 (.methodLink "java/lang/String" 492 yJ0_isLatin1_aae02) (by decide +kernel))) (by decide +kernel) ⟨Nat.le_of_ble_eq_true rfl, Nat.le_of_ble_eq_true rfl⟩, hts _ (sw_in 511 (.instanceMethod yJ0_isLatin1_aae02) (by decide +kernel)), hts _ (sw_in 512 (.selects "java/lang/String" yJ0_isLatin1_aae02 yJ0_isLatin1_aae02) (by decide +kernel))⟩ ⟨hc_blind, vk_recv hX.2.2.1.1 hi hS, fun U hU hW => ⟨rfl, hX.moved hW (by rw [hU]; exact hS)⟩⟩ rfl rfl hl.1 rfl (lv_room (Nat.le_of_ble_eq_true rfl)) (by decide +kernel : decode cJ0_charAt_5068e 1 = .ok (.invokevirtual 492, 3)) ⟨Nat.zero_le _, Nat.zero_le _⟩) ?_
  refine W.eq (g2 := F0 m 4 ls [.int 1]) rfl ?_
  refine lv_if_eq (tgt := 16) hx hb (by decide +kernel : decode cJ0_charAt_5068e 4 = .ok (.ifCond .eq 12, 3)) (by decide) (fun q => absurd q (by decide)) (fun _ => ?_)
  refine lv_aload_n hx hb (by decide +kernel : decode cJ0_charAt_5068e 7 = .ok (.aload_n 0, 1)) rfl (lv_at hl 0 rfl) ?_
  refine vk_getf hx hb s3 hS hown (hts (.fieldLink "java/lang/String" 9 "java/lang/String" "value" "[B") (sw_in 1472 _ (by decide +kernel))) (fun _ q => q) (by decide +kernel : decode cJ0_charAt_5068e 8 = .ok (.getfield 9, 3)) ?_
  refine lv_iload_n hx hb (by decide +kernel : decode cJ0_charAt_5068e 11 = .ok (.iload_n 1, 1)) rfl (lv_at hl 1 rfl) ?_
  refine W.callV (W.runS (As := [.ref (adV i), .int k]) (rest := []) (nL := 2) (Ts := hc_TB) ⟨hx, hb, hml, hown, hts⟩ (sc_l1 l i hi k h1 h2) ⟨callB_of 2 hts (hc_GI sw_l1) rfl rfl rfl (hts _ (sw_in 103 (.initialized "java/lang/StringLatin1") (by decide +kernel))) (hts _ (sw_in 514 (.methodLink "java/lang/String" 495 yJ1_charAt_3b067) (by decide +kernel))) (by decide +kernel) ⟨Nat.le_of_ble_eq_true rfl, Nat.le_of_ble_eq_true rfl⟩, hts _ (sw_in 515 (.static yJ1_charAt_3b067) (by decide +kernel))⟩ ⟨hc_blind, fun U hU hW => ⟨rfl, hX.moved hW (by rw [hU]; exact hS)⟩⟩ rfl rfl hl.1 rfl (lv_room (Nat.le_of_ble_eq_true rfl)) (by decide +kernel : decode cJ0_charAt_5068e 12 = .ok (.invokestatic 495, 3)) ⟨Nat.zero_le _, Nat.zero_le _⟩) ?_
  obtain ⟨e1, e2, e3⟩ := hc_chr i hi k.toNatClampNeg (by omega)
  exact W.zret hx hb hr e2 (fun t ht _ => ⟨rfl, ht⟩) (fun _ h => by cases h) (by decide +kernel : decode cJ0_charAt_5068e 15 = .ok (.ireturn, 1))
end ST
section SU
variable {p : Program} {l : Launch} {e : Env} {R : Room} {s : State} {m : MethodId} {args : Array Value} {below : List Frame} {meth : Method} {c : Code} {H : Heap} {locs : List Loc} {cells slots : Nat} {Q : State → Prop}
variable {D : va_G} {cA : Nat → ClassId} {base b0 : Nat} {adK adV : Nat → Nat} {sL : Nat} {xs : Nat → Int32}
variable {L st L' st' : List hc_V} {h h' : hc_H} {ls : Array Slot} {stk : List Value} {nL pc pc' nx i : Nat}
/-- a String constant's place -/
theorem hc_at8 {cw : List va_E} {r n : Nat} {f : (Nat → Int) ⊕ (Nat → Option Nat)} (hcw : hc_cws D cA base (hc_ad base b0 adK) sL xs h H cw) (hcell : h.2.2 r = .inl (8, n, f)) : ∃ i, i < 21 ∧ r = i + 1 ∧ n = (hc_SB.getD i []).length ∧ f = .inl (fun j => (hc_SB.getD i []).getD j 0) := by
  obtain ⟨c1, c2, c3, c4, c5, c6⟩ := hcw
  rcases Nat.lt_or_ge r 22 with q | q
  · have h1 := hcell.symm.trans (c6 r q)
    cases r with
    | zero => simp [hc_sp] at h1
    | succ r =>
      simp only [hc_sp, Sum.inl.injEq, Prod.mk.injEq] at h1
      exact ⟨r, by omega, rfl, h1.2.1, h1.2.2⟩
  · rcases Nat.lt_or_ge r h.1 with q2 | q2
    · have h3 : r - 22 < cw.length := by omega
      have := c3 (r - 22) _ (List.getElem?_eq_getElem h3)
      rw [show r - 22 + 22 = r by omega, hcell] at this
      cases f <;> simp [hc_cr] at this
    · exact absurd (hcell.symm.trans (c5 r q2)) (by simp [hc_dead])
theorem hs_slen {mi : hc_M} {d idx w : Nat} (hC : hc_C D cA base b0 adK adV sL xs mi p s m args meth c R (d + 1)) (hd : 2 ≤ R.frames ∧ 64 ≤ R.locals) (hdg : decode mi.2.1 pc = .ok (.invokevirtual idx, 3)) (hnx : nx = pc + 3) (hw : hc_w w (.methodLink mi.1.cls idx ⟨"java/lang/String", "length", "()I"⟩) = true) (hsz : ∀ v ws, stk = v :: ws → (ws.map fun v => v.category).sum ≤ 8) (hnl : mi.2.2.1 = nL) (hcs : cells ≤ R.cells ∧ slots ≤ R.slots) (hk : hc_slen nx L st h = some (.inr (.inl (pc', L', st', h')))) (hat : hc_at D cA base b0 adK sL xs s nL L st h ls stk H locs cells) (kk : ∀ (ls : Array Slot) (stk : List Value) (H : Heap) (locs : List Loc), hc_at D cA base b0 adK sL xs s nL L' st' h' ls stk H locs (cells + (h'.1 - h.1)) → W p l e R s m args below meth c H locs (cells + (h'.1 - h.1)) (slots + (h'.2.1 - h.2.1)) Q (F0 m pc' ls stk)) : W p l e R s m args below meth c H locs cells slots Q (F0 m pc ls stk) := by
  subst hnx
  obtain ⟨hx, hb, hml, hown, hts, hX, ⟨hfr, hlo⟩, hini⟩ := hC
  have hts' := hc_htsF (Z := []) hts
  unfold hc_slen at hk
  split at hk
  next r st1 =>
    split at hk
    next t n f hcell =>
      cases h8 : (Nat.beq t 8) with
      | false => rw [h8] at hk; cases hk
      | true =>
        rw [h8, cond_true] at hk
        have e0 : t = 8 := Nat.eq_of_beq_eq_true h8
        subst e0
        obtain ⟨h1, h2, ⟨cw, hcw⟩, h4, h5⟩ := hat
        obtain ⟨w1, ws, rfl, hw1, hsr⟩ := hc_sr_cons h2
        cases hc_vr_ref hw1
        obtain ⟨i, hi, rfl, rfl, -⟩ := hc_at8 hcw hcell
        have hb7 := hc_lenB i hi
        have ead : (hc_ad base b0 adK) (i + 1) = adK i := by
          unfold hc_ad
          rw [if_pos (by omega), if_neg (by omega)]
          rfl
        rw [ead]
        refine hs_to (st := xR (i + 1) :: st1) (st1 := xI ((hc_SB.getD i []).length : Int) :: st1) (stk1 := .int (nI (hc_SB.getD i []).length) :: ws) ⟨hc_mkI (nI_toInt (by omega)), hsr⟩ hk (fun k2 => ?_) ⟨h1, by rw [← ead]; exact h2, ⟨cw, hcw⟩, h4, h5⟩ ‹_›
        exact W.callV (W.runV (As := []) (b := adK i) (C := "java/lang/String") (rest := ws) (nL := mi.2.2.1) (Ts := hc_TB) ⟨hx, hb, hml, hown, hts'⟩ (sc_length l i hi) ⟨callB_of 0 hts' (hc_GI sw_length) rfl rfl rfl (hts' _ (sw_in 102 (.initialized "java/lang/String") (by decide +kernel))) (hts _ (hc_wmem hw).1 (hc_wmem hw).2) (by decide +kernel) ⟨hd.1, by show 8 + (1 + 11) + 24 ≤ _; omega⟩, hts' _ (sw_in 497 (.instanceMethod yJ0_length_8abf5) (by decide +kernel)), hts' _ (sw_in 498 (.selects "java/lang/String" yJ0_length_8abf5 yJ0_length_8abf5) (by decide +kernel))⟩ ⟨hc_blind, vk_recv hX.2.2.1.1 hi h4, fun U hU hW => ⟨rfl, hX.moved hW (by rw [hU]; exact h4)⟩⟩ rfl rfl (by rw [hnl]; exact h1.1) rfl (lv_room (hsz _ ws rfl)) hdg ⟨hcs.1, hcs.2⟩) k2
    next => cases hk
  next => cases hk
theorem hs_chat {mi : hc_M} {d idx w : Nat} (hC : hc_C D cA base b0 adK adV sL xs mi p s m args meth c R (d + 1)) (hd : 4 ≤ R.frames ∧ 128 ≤ R.locals) (hdg : decode mi.2.1 pc = .ok (.invokevirtual idx, 3)) (hnx : nx = pc + 3) (hw : hc_w w (.methodLink mi.1.cls idx ⟨"java/lang/String", "charAt", "(I)C"⟩) = true) (hsz : ∀ v u ws, stk = v :: u :: ws → (ws.map fun v => v.category).sum ≤ 8) (hnl : mi.2.2.1 = nL) (hcs : cells ≤ R.cells ∧ slots ≤ R.slots) (hk : hc_chat nx L st h = some (.inr (.inl (pc', L', st', h')))) (hat : hc_at D cA base b0 adK sL xs s nL L st h ls stk H locs cells) (kk : ∀ (ls : Array Slot) (stk : List Value) (H : Heap) (locs : List Loc), hc_at D cA base b0 adK sL xs s nL L' st' h' ls stk H locs (cells + (h'.1 - h.1)) → W p l e R s m args below meth c H locs (cells + (h'.1 - h.1)) (slots + (h'.2.1 - h.2.1)) Q (F0 m pc' ls stk)) : W p l e R s m args below meth c H locs cells slots Q (F0 m pc ls stk) := by
  subst hnx
  obtain ⟨hx, hb, hml, hown, hts, hX, ⟨hfr, hlo⟩, hini⟩ := hC
  have hts' := hc_htsF (Z := []) hts
  unfold hc_chat at hk
  split at hk
  next k r st1 =>
    split at hk
    next t n f hcell =>
      cases h8 : (Nat.beq t 8) with
      | false => rw [h8] at hk; cases hk
      | true =>
        rw [h8, cond_true] at hk
        split at hk
        next hrg =>
          have e0 : t = 8 := Nat.eq_of_beq_eq_true h8
          subst e0
          obtain ⟨h1, h2, ⟨cw, hcw⟩, h4, h5⟩ := hat
          obtain ⟨w0, ws0, rfl, ⟨z, rfl, hz⟩, hsr0⟩ := hc_sr_cons h2
          obtain ⟨w1, ws, rfl, hw1, hsr⟩ := hc_sr_cons hsr0
          cases hc_vr_ref hw1
          obtain ⟨i, hi, rfl, rfl, hf⟩ := hc_at8 hcw hcell
          cases hf
          have hb7 := hc_lenB i hi
          have ead : (hc_ad base b0 adK) (i + 1) = adK i := by
            unfold hc_ad
            rw [if_pos (by omega), if_neg (by omega)]
            rfl
          have hkl : z.toNatClampNeg < (hc_SB.getD i []).length := by rw [hc_cl hz]; omega
          obtain ⟨-, -, e3⟩ := hc_chr i hi z.toNatClampNeg (by omega)
          rw [ead]
          refine hs_to (st := xI k :: xR (i + 1) :: st1) (st1 := xI ((hc_SB.getD i []).getD k.toNat 0) :: st1) (stk1 := .int (Int32.ofInt ((hc_SB.getD i []).getD z.toNatClampNeg 0)) :: ws) ⟨hc_mkI (by rw [e3, hc_cl hz]), hsr⟩ hk (fun k2 => ?_) ⟨h1, by rw [← ead]; exact h2, ⟨cw, hcw⟩, h4, h5⟩ ‹_›
          exact W.callV (W.runV (As := [.int z]) (b := adK i) (C := "java/lang/String") (rest := ws) (nL := mi.2.2.1) (Ts := hc_TB) ⟨hx, hb, hml, hown, hts'⟩ (sc_charAt l i hi z (hc_nlt hz hrg.1) hkl) ⟨callB_of 1 hts' (hc_GI sw_charAt) rfl rfl rfl (hts' _ (sw_in 102 (.initialized "java/lang/String") (by decide +kernel))) (hts _ (hc_wmem hw).1 (hc_wmem hw).2) (by decide +kernel) ⟨hd.1, by show 8 + (2 + 11) + 72 ≤ _; omega⟩, hts' _ (sw_in 507 (.instanceMethod yJ0_charAt_5068e) (by decide +kernel)), hts' _ (sw_in 508 (.selects "java/lang/String" yJ0_charAt_5068e yJ0_charAt_5068e) (by decide +kernel))⟩ ⟨hc_blind, vk_recv hX.2.2.1.1 hi h4, fun U hU hW => ⟨rfl, hX.moved hW (by rw [hU]; exact h4)⟩⟩ rfl rfl (by rw [hnl]; exact h1.1) rfl (lv_room (hsz _ _ ws rfl)) hdg ⟨hcs.1, hcs.2⟩) k2
        next => cases hk
    next => cases hk
  next => cases hk
end SU
