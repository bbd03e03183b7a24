/-! EACH INSTRUCTION: what the pure machine does, the machine does. -/
theorem hc_bm {x : Int} (h1 : -2147483648 ≤ x) (h2 : x ≤ 2147483647) : x.bmod (2 ^ 32) = x := by
  simp only [Int.bmod]
  split <;> omega
theorem hc_bm64 {x : Int} (h1 : -9223372036854775808 ≤ x) (h2 : x ≤ 9223372036854775807) : x.bmod (2 ^ 64) = x := by
  simp only [Int.bmod]
  split <;> omega
theorem hc_oi {n : Int} (h1 : -2147483648 ≤ n) (h2 : n ≤ 2147483647) : (Int32.ofInt n).toInt = n := by
  rw [Int32.toInt_ofInt]
  exact hc_bm h1 h2
theorem hc_ot (z : Int32) : Int32.ofInt z.toInt = z := by simp
theorem hc_ot64 (z : Int64) : Int64.ofInt z.toInt = z := by simp
theorem hc_lo (z : Int32) : -2147483648 ≤ z.toInt := by have := Int32.le_toInt z; omega
theorem hc_hi (z : Int32) : z.toInt ≤ 2147483647 := by have := Int32.toInt_lt z; omega
theorem hc_gt_eq {α : Type} : ∀ (l : List α) (i : Nat), hc_gt l i = l[i]?
  | [], i => by simp [hc_gt]
  | a :: l, 0 => by simp [hc_gt]
  | a :: l, i + 1 => by rw [hc_gt, List.getElem?_cons_succ, hc_gt_eq l i]
theorem hc_vr_i {ad : Nat → Nat} {x : Int} {w : Value} (h : hc_vr ad (xI x) w) : ∃ z : Int32, w = .int z ∧ z.toInt = x := h
theorem hc_vr_l {ad : Nat → Nat} {x : Int} {w : Value} (h : hc_vr ad (xL x) w) : ∃ z : Int64, w = .long z ∧ z.toInt = x := h
theorem hc_sr_cons {ad : Nat → Nat} {v : hc_V} {vs : List hc_V} {stk : List Value} (h : hc_sr ad (v :: vs) stk) : ∃ w ws, stk = w :: ws ∧ hc_vr ad v w ∧ hc_sr ad vs ws := by
  cases stk with
  | nil => simp [hc_sr] at h
  | cons w ws => exact ⟨w, ws, rfl, h.1, h.2⟩
theorem hc_sr_nil {ad : Nat → Nat} {stk : List Value} (h : hc_sr ad [] stk) : stk = [] := by
  cases stk with
  | nil => rfl
  | cons w ws => simp [hc_sr] at h
def hc_C (D : va_G) (cA : Nat → ClassId) (base b : Nat) (adK adV : Nat → Nat) (sL : Nat) (xs : Nat → Int32) (mi : hc_M) (p : Program) (s : State) (m : MethodId) (args : Array Value) (meth : Method) (c : Code) (R : Room) (d : Nat) : Prop :=
  p.tables.exec = Jvm.exec ∧ c.code = mi.2.1 ∧ c.maxLocals = mi.2.2.1 ∧ s.vm.findClass mi.1.cls = some m.cls ∧ (∀ w ∈ lw_tbl, goodWord w = true → w.before args s = true) ∧ hc_X D cA base b adK adV sL xs s ∧ (d ≤ R.frames ∧ d * 64 ≤ R.locals) ∧ (mi.2.2.2.2.1 = 2 → meth.name = "<init>")
def hc_at (D : va_G) (cA : Nat → ClassId) (base b : Nat) (adK : Nat → Nat) (sL : Nat) (xs : Nat → Int32) (s : State) (nL : Nat) (L st : List hc_V) (h : hc_H) (ls : Array Slot) (stk : List Value) (H : Heap) (locs : List Loc) (cells : Nat) : Prop :=
  hc_lr (hc_ad base b adK) L ls nL ∧ hc_sr (hc_ad base b adK) st stk ∧ hc_rel D cA base (hc_ad base b adK) sL xs h H ∧ va_S (fun q => base ≤ q) s.heap H locs ∧ H.size = s.heap.size + cells
theorem hc_wmem {i : Nat} {w : Cond} (h : hc_w i w = true) : w ∈ lw_tbl ∧ goodWord w = true := by
  simp only [hc_w, Bool.and_eq_true, decide_eq_true_eq] at h
  rw [hc_gt_eq] at h
  exact ⟨List.mem_of_getElem? h.1, h.2⟩
theorem hc_wnmem {i : Nat} {w : Cond} (h : hc_wn i w = true) : w ∈ lw_tbl ∧ hc_nst w = true := by
  simp only [hc_wn, Bool.and_eq_true, decide_eq_true_eq] at h
  rw [hc_gt_eq] at h
  exact ⟨List.mem_of_getElem? h.1, h.2⟩
/-! the locals -/
theorem hc_set_len : ∀ (L : List hc_V) (i : Nat) (v : hc_V), (hc_set L i v).length = L.length
  | [], i, v => rfl
  | a :: l, 0, v => rfl
  | a :: l, i + 1, v => by simp [hc_set, hc_set_len l i v]
theorem hc_set_gt : ∀ (L : List hc_V) (i : Nat) (v : hc_V) (j : Nat), hc_gt (hc_set L i v) j = if j = i then (hc_gt L i).map (fun _ => v) else hc_gt L j
  | [], i, v, j => by simp [hc_set, hc_gt]
  | a :: l, 0, v, 0 => by simp [hc_set, hc_gt]
  | a :: l, 0, v, j + 1 => by simp [hc_set, hc_gt]
  | a :: l, i + 1, v, 0 => by simp [hc_set, hc_gt]
  | a :: l, i + 1, v, j + 1 => by
    simp only [hc_set, hc_gt, hc_set_gt l i v j, Nat.add_right_cancel_iff]
theorem hc_cut_len (L : List hc_V) (i : Nat) : (hc_cut L i).length = L.length := by
  cases i with
  | zero => rfl
  | succ j =>
    simp only [hc_cut]
    split
    · rw [hc_set_len]
    · rfl
theorem hc_cut_gt (L : List hc_V) (i j : Nat) (v : hc_V) (h : hc_gt (hc_cut L i) j = some v) (hv : v ≠ none) : hc_gt L j = some v ∧ (j + 1 = i → ∀ x, v ≠ xL x) := by
  cases i with
  | zero => exact ⟨h, fun q => by omega⟩
  | succ k =>
    simp only [hc_cut] at h
    split at h
    next x hx =>
      rw [hc_set_gt] at h
      by_cases hj : j = k
      · rw [if_pos hj, hx] at h
        simp at h
        exact absurd h.symm hv
      · rw [if_neg hj] at h
        exact ⟨h, fun q => by omega⟩
    next hx =>
      refine ⟨h, fun q x hvx => ?_⟩
      have hj : j = k := by omega
      subst hj
      exact hx x (by rw [h, hvx])
def hc_alls (ls : Array Slot) : List (Nat × Value) := (List.range ls.size).filterMap (fun (i : Nat) => match (ls[i]? : Option Slot) with
  | some (.val w) => some (i, w)
  | _ => none)
theorem hc_alls_has {ls : Array Slot} {nL : Nat} (h1 : ls.size = nL) (h2 : lv_wf ls) : lv_has ls nL (hc_alls ls) := by
  refine ⟨h1, h2, fun q hq => ?_⟩
  obtain ⟨i, -, hi⟩ := List.mem_filterMap.mp hq
  split at hi
  next w hw =>
    cases hi
    exact hw
  next => cases hi
theorem hc_alls_in {ls : Array Slot} {i : Nat} {w : Value} (h : ls[i]? = some (.val w)) : (i, w) ∈ hc_alls ls := by
  refine List.mem_filterMap.mpr ⟨i, List.mem_range.mpr (Array.getElem?_eq_some_iff.mp h).1, ?_⟩
  rw [h]
theorem hc_vr_cat {ad : Nat → Nat} {v : hc_V} {w : Value} (h : hc_vr ad v w) (hv : ∀ x, v ≠ xL x) : w.category = 1 := by
  match v, h with
  | some (.inl x), h => obtain ⟨z, rfl, -⟩ := h; rfl
  | some (.inr (.inl x)), _ => exact absurd rfl (hv x)
  | some (.inr (.inr none)), h => cases h; rfl
  | some (.inr (.inr (some r))), h => cases h; rfl
theorem hc_lr_st1 {ad : Nat → Nat} {L : List hc_V} {ls ls' : Array Slot} {nL i : Nat} {v : hc_V} {w : Value} (h : hc_lr ad L ls nL) (hi : i < nL) (hv : hc_vr ad v w)
    (h' : lv_has ls' nL ((i, w) :: (hc_alls ls).filter (fun q => !(q.1 == i) && !(q.1 + 1 == i && q.2.category == 2)))) : hc_lr ad (hc_st1 L i v) ls' nL := by
  obtain ⟨h1, h2, h3, h4⟩ := h
  refine ⟨h'.1, h'.2.1, by rw [hc_st1, hc_set_len, hc_cut_len, h3], fun j u hu hn => ?_⟩
  rw [hc_st1, hc_set_gt] at hu
  by_cases hj : j = i
  · subst hj
    rw [if_pos rfl, Option.map_eq_some_iff] at hu
    obtain ⟨_, -, rfl⟩ := hu
    exact ⟨w, hv, h'.2.2 (j, w) List.mem_cons_self⟩
  · rw [if_neg hj] at hu
    obtain ⟨q1, q2⟩ := hc_cut_gt L i j u hu hn
    obtain ⟨w', r1, r2⟩ := h4 j u q1 hn
    refine ⟨w', r1, h'.2.2 (j, w') (List.mem_cons_of_mem _ (List.mem_filter.mpr ⟨hc_alls_in r2, ?_⟩))⟩
    by_cases hji : j + 1 = i
    · have := hc_vr_cat r1 (q2 hji)
      simp [hj, this]
    · simp [hj, hji]
theorem hc_lr_st2 {ad : Nat → Nat} {L : List hc_V} {ls ls' : Array Slot} {nL i : Nat} {v : hc_V} {w : Value} (h : hc_lr ad L ls nL) (hi : i + 1 < nL) (hv : hc_vr ad v w)
    (h' : lv_has ls' nL ((i, w) :: (hc_alls ls).filter (fun q => !(q.1 == i) && (!(q.1 == i + 1) && !(q.1 + 1 == i && q.2.category == 2))))) : hc_lr ad (hc_st2 L i v) ls' nL := by
  obtain ⟨h1, h2, h3, h4⟩ := h
  refine ⟨h'.1, h'.2.1, by rw [hc_st2, hc_set_len, hc_set_len, hc_cut_len, h3], fun j u hu hn => ?_⟩
  rw [hc_st2, hc_set_gt] at hu
  by_cases hj : j = i
  · subst hj
    rw [if_pos rfl, Option.map_eq_some_iff] at hu
    obtain ⟨_, -, rfl⟩ := hu
    exact ⟨w, hv, h'.2.2 (j, w) List.mem_cons_self⟩
  · rw [if_neg hj, hc_set_gt] at hu
    by_cases hj2 : j = i + 1
    · rw [if_pos hj2, Option.map_eq_some_iff] at hu
      obtain ⟨_, -, rfl⟩ := hu
      exact absurd rfl hn
    · rw [if_neg hj2] at hu
      obtain ⟨q1, q2⟩ := hc_cut_gt L i j u hu hn
      obtain ⟨w', r1, r2⟩ := h4 j u q1 hn
      refine ⟨w', r1, h'.2.2 (j, w') (List.mem_cons_of_mem _ (List.mem_filter.mpr ⟨hc_alls_in r2, ?_⟩))⟩
      by_cases hji : j + 1 = i
      · have := hc_vr_cat r1 (q2 hji)
        simp [hj, hj2, this]
      · simp [hj, hj2, hji]
theorem hc_mkI {ad : Nat → Nat} {z : Int32} {x : Int} (h : z.toInt = x) : hc_vr ad (xI x) (.int z) := ⟨z, rfl, h⟩
theorem hc_mkL {ad : Nat → Nat} {z : Int64} {x : Int} (h : z.toInt = x) : hc_vr ad (xL x) (.long z) := ⟨z, rfl, h⟩
theorem hc_mkN {ad : Nat → Nat} : hc_vr ad xN .null := rfl
theorem hc_mkR {ad : Nat → Nat} {k : Nat} : hc_vr ad (xR k) (.ref (ad k)) := rfl
