/-! the rows, by groups: the stack and the locals alone -/
section HS
variable {p : Program} {l : Launch} {e : Env} {R : Room} {s : State} {m : MethodId} {args : Array Value} {below : List Frame} {meth : Method} {c : Code} {H : Heap} {locs : List Loc} {cells slots : Nat} {Q : State → Prop}
variable {D : va_G} {cA : Nat → ClassId} {base b0 : Nat} {adK : Nat → Nat} {sL : Nat} {xs : Nat → Int32}
variable {L st L' st' : List hc_V} {h h' : hc_H} {ls : Array Slot} {stk : List Value} {nL pc pc' nx i : Nat}
theorem hs_push {v : hc_V} {w : Value} (hw : hc_vr (hc_ad base b0 adK) v w) (hk : hc_go nx L (v :: st) h = some (.inr (.inl (pc', L', st', h')))) (row : W p l e R s m args below meth c H locs cells slots Q (F0 m nx ls (w :: stk)) → W p l e R s m args below meth c H locs cells slots Q (F0 m pc ls stk))
    (hat : hc_at D cA base b0 adK sL xs s nL L st h ls stk H locs cells) (kk : ∀ (ls : Array Slot) (stk : List Value) (H : Heap) (locs : List Loc), hc_at D cA base b0 adK sL xs s nL L' st' h' ls stk H locs (cells + (h'.1 - h.1)) → W p l e R s m args below meth c H locs (cells + (h'.1 - h.1)) (slots + (h'.2.1 - h.2.1)) Q (F0 m pc' ls stk)) :
    W p l e R s m args below meth c H locs cells slots Q (F0 m pc ls stk) := by
  simp only [hc_go, Option.some.injEq, Sum.inr.injEq, Sum.inl.injEq, Prod.mk.injEq] at hk
  obtain ⟨rfl, rfl, rfl, rfl⟩ := hk
  obtain ⟨h1, h2, h3, h4, h5⟩ := hat
  have q := kk ls (w :: stk) H locs ⟨h1, ⟨hw, h2⟩, h3, h4, by simpa using h5⟩
  simp only [Nat.sub_self, Nat.add_zero] at q
  exact row q
/-- nothing but the place moves, and the stack as said -/
theorem hs_to {st1 : List hc_V} {stk1 : List Value} (hw : hc_sr (hc_ad base b0 adK) st1 stk1) (hk : hc_go nx L st1 h = some (.inr (.inl (pc', L', st', h')))) (row : W p l e R s m args below meth c H locs cells slots Q (F0 m nx ls stk1) → W p l e R s m args below meth c H locs cells slots Q (F0 m pc ls stk))
    (hat : hc_at D cA base b0 adK sL xs s nL L st h ls stk H locs cells) (kk : ∀ (ls : Array Slot) (stk : List Value) (H : Heap) (locs : List Loc), hc_at D cA base b0 adK sL xs s nL L' st' h' ls stk H locs (cells + (h'.1 - h.1)) → W p l e R s m args below meth c H locs (cells + (h'.1 - h.1)) (slots + (h'.2.1 - h.2.1)) Q (F0 m pc' ls stk)) :
    W p l e R s m args below meth c H locs cells slots Q (F0 m pc ls stk) := by
  simp only [hc_go, Option.some.injEq, Sum.inr.injEq, Sum.inl.injEq, Prod.mk.injEq] at hk
  obtain ⟨rfl, rfl, rfl, rfl⟩ := hk
  obtain ⟨h1, h2, h3, h4, h5⟩ := hat
  have q := kk ls stk1 H locs ⟨h1, hw, h3, h4, by simpa using h5⟩
  simp only [Nat.sub_self, Nat.add_zero] at q
  exact row q
theorem hs_ldi (hk : hc_ldi i nx L st h = some (.inr (.inl (pc', L', st', h')))) (row : ∀ x : Int32, ls[i]? = some (.val (.int x)) → W p l e R s m args below meth c H locs cells slots Q (F0 m nx ls (.int x :: stk)) → W p l e R s m args below meth c H locs cells slots Q (F0 m pc ls stk))
    (hat : hc_at D cA base b0 adK sL xs s nL L st h ls stk H locs cells) (kk : ∀ (ls : Array Slot) (stk : List Value) (H : Heap) (locs : List Loc), hc_at D cA base b0 adK sL xs s nL L' st' h' ls stk H locs (cells + (h'.1 - h.1)) → W p l e R s m args below meth c H locs (cells + (h'.1 - h.1)) (slots + (h'.2.1 - h.2.1)) Q (F0 m pc' ls stk)) :
    W p l e R s m args below meth c H locs cells slots Q (F0 m pc ls stk) := by
  unfold hc_ldi at hk
  split at hk
  next x hx =>
    obtain ⟨w, ⟨z, rfl, hz⟩, h2⟩ := hat.1.2.2.2 i _ hx (by simp)
    exact hs_push (hc_mkI hz) hk (row z h2) hat kk
  next => cases hk
theorem hs_ldl (hk : hc_ldl i nx L st h = some (.inr (.inl (pc', L', st', h')))) (row : ∀ x : Int64, ls[i]? = some (.val (.long x)) → W p l e R s m args below meth c H locs cells slots Q (F0 m nx ls (.long x :: stk)) → W p l e R s m args below meth c H locs cells slots Q (F0 m pc ls stk))
    (hat : hc_at D cA base b0 adK sL xs s nL L st h ls stk H locs cells) (kk : ∀ (ls : Array Slot) (stk : List Value) (H : Heap) (locs : List Loc), hc_at D cA base b0 adK sL xs s nL L' st' h' ls stk H locs (cells + (h'.1 - h.1)) → W p l e R s m args below meth c H locs (cells + (h'.1 - h.1)) (slots + (h'.2.1 - h.2.1)) Q (F0 m pc' ls stk)) :
    W p l e R s m args below meth c H locs cells slots Q (F0 m pc ls stk) := by
  unfold hc_ldl at hk
  split at hk
  next x hx =>
    obtain ⟨w, ⟨z, rfl, hz⟩, h2⟩ := hat.1.2.2.2 i _ hx (by simp)
    exact hs_push (hc_mkL hz) hk (row z h2) hat kk
  next => cases hk
theorem hs_lda (hk : hc_lda i nx L st h = some (.inr (.inl (pc', L', st', h')))) (row : ∀ x : Nat, ls[i]? = some (.val (.ref x)) → W p l e R s m args below meth c H locs cells slots Q (F0 m nx ls (.ref x :: stk)) → W p l e R s m args below meth c H locs cells slots Q (F0 m pc ls stk))
    (rowN : ls[i]? = some (.val .null) → W p l e R s m args below meth c H locs cells slots Q (F0 m nx ls (.null :: stk)) → W p l e R s m args below meth c H locs cells slots Q (F0 m pc ls stk))
    (hat : hc_at D cA base b0 adK sL xs s nL L st h ls stk H locs cells) (kk : ∀ (ls : Array Slot) (stk : List Value) (H : Heap) (locs : List Loc), hc_at D cA base b0 adK sL xs s nL L' st' h' ls stk H locs (cells + (h'.1 - h.1)) → W p l e R s m args below meth c H locs (cells + (h'.1 - h.1)) (slots + (h'.2.1 - h.2.1)) Q (F0 m pc' ls stk)) :
    W p l e R s m args below meth c H locs cells slots Q (F0 m pc ls stk) := by
  unfold hc_lda at hk
  split at hk
  next r hx =>
    obtain ⟨w, hw, h2⟩ := hat.1.2.2.2 i _ hx (by simp)
    cases r with
    | none => cases hw; exact hs_push hc_mkN hk (rowN h2) hat kk
    | some r => cases hw; exact hs_push hc_mkR hk (row _ h2) hat kk
  next => cases hk
theorem hs_st1 {v : hc_V} {w : Value} {stk1 : List Value} (hv : hc_vr (hc_ad base b0 adK) v w) (hs : hc_sr (hc_ad base b0 adK) st stk1) (hk : hc_go nx (hc_st1 L i v) st h = some (.inr (.inl (pc', L', st', h')))) (hi : i < nL)
    (row : (∀ ls' : Array Slot, lv_has ls' nL ((i, w) :: (hc_alls ls).filter (fun q => !(q.1 == i) && !(q.1 + 1 == i && q.2.category == 2))) → W p l e R s m args below meth c H locs cells slots Q (F0 m nx ls' stk1)) → W p l e R s m args below meth c H locs cells slots Q (F0 m pc ls stk))
    (h1 : hc_lr (hc_ad base b0 adK) L ls nL) (h3 : hc_rel D cA base (hc_ad base b0 adK) sL xs h H) (h4 : va_S (fun q => base ≤ q) s.heap H locs) (h5 : H.size = s.heap.size + cells) (kk : ∀ (ls : Array Slot) (stk : List Value) (H : Heap) (locs : List Loc), hc_at D cA base b0 adK sL xs s nL L' st' h' ls stk H locs (cells + (h'.1 - h.1)) → W p l e R s m args below meth c H locs (cells + (h'.1 - h.1)) (slots + (h'.2.1 - h.2.1)) Q (F0 m pc' ls stk)) :
    W p l e R s m args below meth c H locs cells slots Q (F0 m pc ls stk) := by
  simp only [hc_go, Option.some.injEq, Sum.inr.injEq, Sum.inl.injEq, Prod.mk.injEq] at hk
  obtain ⟨rfl, rfl, rfl, rfl⟩ := hk
  refine row fun ls' hl' => ?_
  have q := kk ls' stk1 H locs ⟨hc_lr_st1 h1 hi hv hl', hs, h3, h4, by simpa using h5⟩
  simp only [Nat.sub_self, Nat.add_zero] at q
  exact q
theorem hs_sti (hk : hc_sti i nx L st h = some (.inr (.inl (pc', L', st', h')))) (row : ∀ (x : Int32) (stk1 : List Value), stk = .int x :: stk1 → i < nL → lv_has ls nL (hc_alls ls) → (∀ ls' : Array Slot, lv_has ls' nL ((i, .int x) :: (hc_alls ls).filter (fun q => !(q.1 == i) && !(q.1 + 1 == i && q.2.category == 2))) → W p l e R s m args below meth c H locs cells slots Q (F0 m nx ls' stk1)) → W p l e R s m args below meth c H locs cells slots Q (F0 m pc ls stk))
    (hat : hc_at D cA base b0 adK sL xs s nL L st h ls stk H locs cells) (kk : ∀ (ls : Array Slot) (stk : List Value) (H : Heap) (locs : List Loc), hc_at D cA base b0 adK sL xs s nL L' st' h' ls stk H locs (cells + (h'.1 - h.1)) → W p l e R s m args below meth c H locs (cells + (h'.1 - h.1)) (slots + (h'.2.1 - h.2.1)) Q (F0 m pc' ls stk)) :
    W p l e R s m args below meth c H locs cells slots Q (F0 m pc ls stk) := by
  unfold hc_sti at hk
  split at hk
  next x st2 =>
    split at hk
    next hi =>
      obtain ⟨h1, h2, h3, h4, h5⟩ := hat
      obtain ⟨w, ws, rfl, ⟨z, rfl, hz⟩, hsr⟩ := hc_sr_cons h2
      have hi' : i < nL := by rw [← h1.2.2.1]; exact hi
      exact hs_st1 (hc_mkI hz) hsr hk hi' (row z ws rfl hi' (hc_alls_has h1.1 h1.2.1)) h1 h3 h4 h5 kk
    next => cases hk
  next => cases hk
theorem hs_sta (hk : hc_sta i nx L st h = some (.inr (.inl (pc', L', st', h')))) (row : ∀ (x : Nat) (stk1 : List Value), stk = .ref x :: stk1 → i < nL → lv_has ls nL (hc_alls ls) → (∀ ls' : Array Slot, lv_has ls' nL ((i, .ref x) :: (hc_alls ls).filter (fun q => !(q.1 == i) && !(q.1 + 1 == i && q.2.category == 2))) → W p l e R s m args below meth c H locs cells slots Q (F0 m nx ls' stk1)) → W p l e R s m args below meth c H locs cells slots Q (F0 m pc ls stk))
    (rowN : ∀ (stk1 : List Value), stk = .null :: stk1 → i < nL → lv_has ls nL (hc_alls ls) → (∀ ls' : Array Slot, lv_has ls' nL ((i, .null) :: (hc_alls ls).filter (fun q => !(q.1 == i) && !(q.1 + 1 == i && q.2.category == 2))) → W p l e R s m args below meth c H locs cells slots Q (F0 m nx ls' stk1)) → W p l e R s m args below meth c H locs cells slots Q (F0 m pc ls stk))
    (hat : hc_at D cA base b0 adK sL xs s nL L st h ls stk H locs cells) (kk : ∀ (ls : Array Slot) (stk : List Value) (H : Heap) (locs : List Loc), hc_at D cA base b0 adK sL xs s nL L' st' h' ls stk H locs (cells + (h'.1 - h.1)) → W p l e R s m args below meth c H locs (cells + (h'.1 - h.1)) (slots + (h'.2.1 - h.2.1)) Q (F0 m pc' ls stk)) :
    W p l e R s m args below meth c H locs cells slots Q (F0 m pc ls stk) := by
  unfold hc_sta at hk
  split at hk
  next r st2 =>
    split at hk
    next hi =>
      obtain ⟨h1, h2, h3, h4, h5⟩ := hat
      obtain ⟨w, ws, rfl, hw, hsr⟩ := hc_sr_cons h2
      have hi' : i < nL := by rw [← h1.2.2.1]; exact hi
      cases r with
      | none => cases hw; exact hs_st1 hc_mkN hsr hk hi' (rowN ws rfl hi' (hc_alls_has h1.1 h1.2.1)) h1 h3 h4 h5 kk
      | some r => cases hw; exact hs_st1 hc_mkR hsr hk hi' (row _ ws rfl hi' (hc_alls_has h1.1 h1.2.1)) h1 h3 h4 h5 kk
    next => cases hk
  next => cases hk
theorem hs_stl (hk : hc_stl i nx L st h = some (.inr (.inl (pc', L', st', h')))) (row : ∀ (x : Int64) (stk1 : List Value), stk = .long x :: stk1 → i + 1 < nL → lv_has ls nL (hc_alls ls) → (∀ ls' : Array Slot, lv_has ls' nL ((i, .long x) :: (hc_alls ls).filter (fun q => !(q.1 == i) && (!(q.1 == i + 1) && !(q.1 + 1 == i && q.2.category == 2)))) → W p l e R s m args below meth c H locs cells slots Q (F0 m nx ls' stk1)) → W p l e R s m args below meth c H locs cells slots Q (F0 m pc ls stk))
    (hat : hc_at D cA base b0 adK sL xs s nL L st h ls stk H locs cells) (kk : ∀ (ls : Array Slot) (stk : List Value) (H : Heap) (locs : List Loc), hc_at D cA base b0 adK sL xs s nL L' st' h' ls stk H locs (cells + (h'.1 - h.1)) → W p l e R s m args below meth c H locs (cells + (h'.1 - h.1)) (slots + (h'.2.1 - h.2.1)) Q (F0 m pc' ls stk)) :
    W p l e R s m args below meth c H locs cells slots Q (F0 m pc ls stk) := by
  unfold hc_stl at hk
  split at hk
  next x st2 =>
    split at hk
    next hi =>
      obtain ⟨h1, h2, h3, h4, h5⟩ := hat
      obtain ⟨w, ws, rfl, ⟨z, rfl, hz⟩, hsr⟩ := hc_sr_cons h2
      have hi' : i + 1 < nL := by rw [← h1.2.2.1]; exact hi
      simp only [hc_go, Option.some.injEq, Sum.inr.injEq, Sum.inl.injEq, Prod.mk.injEq] at hk
      obtain ⟨rfl, rfl, rfl, rfl⟩ := hk
      refine row z ws rfl hi' (hc_alls_has h1.1 h1.2.1) fun ls' hl' => ?_
      have q := kk ls' ws H locs ⟨hc_lr_st2 h1 hi' (hc_mkL hz) hl', hsr, h3, h4, by simpa using h5⟩
      simp only [Nat.sub_self, Nat.add_zero] at q
      exact q
    next => cases hk
  next => cases hk
theorem hs_inc {n : Int} (hn1 : -128 ≤ n) (hn2 : n ≤ 127) (hk : hc_inc i n nx L st h = some (.inr (.inl (pc', L', st', h')))) (row : ∀ (x : Int32), ls[i]? = some (.val (.int x)) → i < nL → lv_has ls nL ((i, .int x) :: hc_alls ls) → (∀ ls' : Array Slot, lv_has ls' nL ((i, .int (x + Int32.ofInt n)) :: (hc_alls ls).filter (fun q => !(q.1 == i) && !(q.1 + 1 == i && q.2.category == 2))) → W p l e R s m args below meth c H locs cells slots Q (F0 m nx ls' stk)) → W p l e R s m args below meth c H locs cells slots Q (F0 m pc ls stk))
    (hat : hc_at D cA base b0 adK sL xs s nL L st h ls stk H locs cells) (kk : ∀ (ls : Array Slot) (stk : List Value) (H : Heap) (locs : List Loc), hc_at D cA base b0 adK sL xs s nL L' st' h' ls stk H locs (cells + (h'.1 - h.1)) → W p l e R s m args below meth c H locs (cells + (h'.1 - h.1)) (slots + (h'.2.1 - h.2.1)) Q (F0 m pc' ls stk)) :
    W p l e R s m args below meth c H locs cells slots Q (F0 m pc ls stk) := by
  unfold hc_inc at hk
  split at hk
  next x hx =>
    split at hk
    next hr =>
      obtain ⟨h1, h2, h3, h4, h5⟩ := hat
      obtain ⟨w, ⟨z, rfl, hz⟩, hls⟩ := h1.2.2.2 i _ hx (by simp)
      have hi' : i < nL := by rw [← h1.1]; exact (Array.getElem?_eq_some_iff.mp hls).1
      have ha := hc_alls_has h1.1 h1.2.1
      have hv : (z + Int32.ofInt n).toInt = x + n := by
        rw [Int32.toInt_add, hc_oi (by omega) (by omega), hz]
        exact hc_bm hr.1 hr.2
      exact hs_st1 (hc_mkI hv) h2 hk hi' (row z hls hi' ⟨ha.1, ha.2.1, fun q hq => by
        rcases List.mem_cons.mp hq with rfl | hq
        · exact hls
        · exact ha.2.2 q hq⟩) h1 h3 h4 h5 kk
    next => cases hk
  next => cases hk
theorem hs_b2 {f : Int → Int → Int} {g : Int32 → Int32 → Int32} (hf : ∀ a b : Int32, -2147483648 ≤ f a.toInt b.toInt → f a.toInt b.toInt ≤ 2147483647 → (g a b).toInt = f a.toInt b.toInt) (hk : hc_b2 f nx L st h = some (.inr (.inl (pc', L', st', h'))))
    (row : ∀ (x y : Int32) (rest : List Value), W p l e R s m args below meth c H locs cells slots Q (F0 m nx ls (.int (g x y) :: rest)) → W p l e R s m args below meth c H locs cells slots Q (F0 m pc ls (.int y :: .int x :: rest)))
    (hat : hc_at D cA base b0 adK sL xs s nL L st h ls stk H locs cells) (kk : ∀ (ls : Array Slot) (stk : List Value) (H : Heap) (locs : List Loc), hc_at D cA base b0 adK sL xs s nL L' st' h' ls stk H locs (cells + (h'.1 - h.1)) → W p l e R s m args below meth c H locs (cells + (h'.1 - h.1)) (slots + (h'.2.1 - h.2.1)) Q (F0 m pc' ls stk)) :
    W p l e R s m args below meth c H locs cells slots Q (F0 m pc ls stk) := by
  unfold hc_b2 hc_p at hk
  split at hk
  next y x st1 =>
    split at hk
    next hr =>
      have h2 := hat.2.1
      obtain ⟨w2, ws, rfl, ⟨z2, rfl, hz2⟩, h2a⟩ := hc_sr_cons h2
      obtain ⟨w1, ws1, rfl, ⟨z1, rfl, hz1⟩, h2b⟩ := hc_sr_cons h2a
      refine hs_to (st1 := xI (f x y) :: st1) (stk1 := .int (g z1 z2) :: ws1) ⟨hc_mkI ?_, h2b⟩ hk (row z1 z2 ws1) hat kk
      rw [← hz1, ← hz2] at hr ⊢
      exact hf z1 z2 hr.1 hr.2
    next => cases hk
  next => cases hk
theorem hs_b3 {f : Int → Int → Int} {g : Int32 → Int32 → Int32} (hf : ∀ a b : Int32, (g a b).toInt = f a.toInt b.toInt) (hk : hc_b3 f nx L st h = some (.inr (.inl (pc', L', st', h'))))
    (row : ∀ (x y : Int32) (rest : List Value), stk = .int y :: .int x :: rest → W p l e R s m args below meth c H locs cells slots Q (F0 m nx ls (.int (g x y) :: rest)) → W p l e R s m args below meth c H locs cells slots Q (F0 m pc ls (.int y :: .int x :: rest)))
    (hat : hc_at D cA base b0 adK sL xs s nL L st h ls stk H locs cells) (kk : ∀ (ls : Array Slot) (stk : List Value) (H : Heap) (locs : List Loc), hc_at D cA base b0 adK sL xs s nL L' st' h' ls stk H locs (cells + (h'.1 - h.1)) → W p l e R s m args below meth c H locs (cells + (h'.1 - h.1)) (slots + (h'.2.1 - h.2.1)) Q (F0 m pc' ls stk)) :
    W p l e R s m args below meth c H locs cells slots Q (F0 m pc ls stk) := by
  unfold hc_b3 at hk
  split at hk
  next y x st1 =>
    have h2 := hat.2.1
    obtain ⟨w2, ws, rfl, ⟨z2, rfl, hz2⟩, h2a⟩ := hc_sr_cons h2
    obtain ⟨w1, ws1, rfl, ⟨z1, rfl, hz1⟩, h2b⟩ := hc_sr_cons h2a
    refine hs_to (st1 := xI (f x y) :: st1) (stk1 := .int (g z1 z2) :: ws1) ⟨hc_mkI ?_, h2b⟩ hk (row z1 z2 ws1 rfl) hat kk
    rw [← hz1, ← hz2]
    exact hf z1 z2
  next => cases hk
theorem hs_l2 {f : Int → Int → Int} {g : Int64 → Int64 → Int64} (hf : ∀ a b : Int64, -9223372036854775808 ≤ f a.toInt b.toInt → f a.toInt b.toInt ≤ 9223372036854775807 → (g a b).toInt = f a.toInt b.toInt) (hk : hc_l2 f nx L st h = some (.inr (.inl (pc', L', st', h'))))
    (row : ∀ (x y : Int64) (rest : List Value), W p l e R s m args below meth c H locs cells slots Q (F0 m nx ls (.long (g x y) :: rest)) → W p l e R s m args below meth c H locs cells slots Q (F0 m pc ls (.long y :: .long x :: rest)))
    (hat : hc_at D cA base b0 adK sL xs s nL L st h ls stk H locs cells) (kk : ∀ (ls : Array Slot) (stk : List Value) (H : Heap) (locs : List Loc), hc_at D cA base b0 adK sL xs s nL L' st' h' ls stk H locs (cells + (h'.1 - h.1)) → W p l e R s m args below meth c H locs (cells + (h'.1 - h.1)) (slots + (h'.2.1 - h.2.1)) Q (F0 m pc' ls stk)) :
    W p l e R s m args below meth c H locs cells slots Q (F0 m pc ls stk) := by
  unfold hc_l2 hc_q at hk
  split at hk
  next y x st1 =>
    split at hk
    next hr =>
      have h2 := hat.2.1
      obtain ⟨w2, ws, rfl, ⟨z2, rfl, hz2⟩, h2a⟩ := hc_sr_cons h2
      obtain ⟨w1, ws1, rfl, ⟨z1, rfl, hz1⟩, h2b⟩ := hc_sr_cons h2a
      refine hs_to (st1 := xL (f x y) :: st1) (stk1 := .long (g z1 z2) :: ws1) ⟨hc_mkL ?_, h2b⟩ hk (row z1 z2 ws1) hat kk
      rw [← hz1, ← hz2] at hr ⊢
      exact hf z1 z2 hr.1 hr.2
    next => cases hk
  next => cases hk
end HS
