/-! the heap: worlds that are written, worlds that grow -/
theorem hc_cls {ci : Nat} {C : String} {T : u_T} {N : Nat} (h : hc_gt vwCl ci = some (C, T, N)) : ∃ ty : Nat → FieldType, (∀ k, k < N → parseFieldDescriptor (T k).2.2.1 = some (ty k)) ∧ ∀ a, a < N → ∀ b, b < N → a ≠ b → (T a).2.1 ≠ (T b).2.1 := by
  match ci, h with
  | 0, h => cases h; exact ⟨_, tyX0_ok, nmX0⟩
  | 1, h => cases h; exact ⟨_, tyX1_ok, nmX1⟩
  | 2, h => cases h; exact ⟨_, tyX2_ok, nmX2⟩
  | 3, h => cases h; exact ⟨_, tyX3_ok, nmX3⟩
  | 4, h => cases h; exact ⟨_, tyX4_ok, nmX4⟩
  | 5, h => cases h; exact ⟨_, tyX5_ok, nmX5⟩
  | 6, h => cases h; exact ⟨_, tyX6_ok, nmX6⟩
  | 7, h => cases h; exact ⟨_, tyX7_ok, nmX7⟩
  | 8, h => cases h; exact ⟨_, tyX8_ok, nmX8⟩
  | 9, h => cases h; exact ⟨_, tyX9_ok, nmX9⟩
  | 10, h => cases h; exact ⟨_, tyX10_ok, nmX10⟩
  | n + 11, h => simp [vwCl, hc_gt] at h
theorem hc_bne {a b : Nat} (h : a ≠ b) : Nat.beq a b = false := by
  cases q : Nat.beq a b with
  | false => rfl
  | true => exact absurd (Nat.eq_of_beq_eq_true q) h
theorem hc_cls_lt {ci : Nat} {q : vw_C} (h : hc_gt vwCl ci = some q) : ci < 11 := hc_gt_lt vwCl ci q h
theorem hc_sr_gt {ad : Nat → Nat} : ∀ {vs : List hc_V} {fs : List Value} {k : Nat} {v : hc_V}, hc_sr ad vs fs → hc_gt vs k = some v → ∃ w, fs[k]? = some w ∧ hc_vr ad v w
  | [], fs, k, v, h, hk => by simp [hc_gt] at hk
  | a :: vs, [], k, v, h, hk => by simp [hc_sr] at h
  | a :: vs, f :: fs, 0, v, h, hk => by
    simp only [hc_gt, Option.some.injEq] at hk
    subst hk
    exact ⟨f, rfl, h.1⟩
  | a :: vs, f :: fs, k + 1, v, h, hk => by
    obtain ⟨w, h1, h2⟩ := hc_sr_gt (k := k) h.2 hk
    exact ⟨w, by rw [List.getElem?_cons_succ]; exact h1, h2⟩
theorem hc_sr_set {ad : Nat → Nat} : ∀ {vs : List hc_V} {fs : List Value} (k : Nat) {v : hc_V} {w : Value}, hc_sr ad vs fs → hc_vr ad v w → hc_sr ad (hc_set vs k v) (fs.set k w)
  | [], [], k, v, w, h, hk => by simp [hc_set, hc_sr]
  | [], f :: fs, k, v, w, h, hk => by simp [hc_sr] at h
  | a :: vs, [], k, v, w, h, hk => by simp [hc_sr] at h
  | a :: vs, f :: fs, 0, v, w, h, hk => ⟨hk, h.2⟩
  | a :: vs, f :: fs, k + 1, v, w, h, hk => ⟨h.1, hc_sr_set k h.2 hk⟩
theorem hc_sr_len {ad : Nat → Nat} : ∀ {vs : List hc_V} {fs : List Value}, hc_sr ad vs fs → fs.length = vs.length
  | [], [], _ => rfl
  | [], f :: fs, h => by simp [hc_sr] at h
  | a :: vs, [], h => by simp [hc_sr] at h
  | a :: vs, f :: fs, h => by simp [hc_sr_len h.2]
section HW
variable {p : Program} {l : Launch} {e : Env} {R : Room} {s : State} {m : MethodId} {args : Array Value} {below : List Frame} {meth : Method} {c : Code} {H : Heap} {locs : List Loc} {cells slots : Nat} {Q : State → Prop}
variable {D : va_G} {cA : Nat → ClassId} {base b0 : Nat} {adK adV : Nat → Nat} {sL : Nat} {xs : Nat → Int32}
variable {L st L' st' : List hc_V} {h h' : hc_H} {ls : Array Slot} {stk : List Value} {nL pc pc' nx i : Nat}
theorem hc_Wsz {g : JFrame} (k : H.size ≤ s.heap.size + cells → W p l e R s m args below meth c H locs cells slots Q g) : W p l e R s m args below meth c H locs cells slots Q g := fun T hT X => k (by rw [← hT]; exact X.heapSize) T hT X
theorem hc_S2 {H1 : Heap} {locs1 : List Loc} (h1 : va_S (fun q => base ≤ q) s.heap H locs) (h2 : va_S (fun q => base ≤ q) H H1 locs1) : va_S (fun q => base ≤ q) s.heap H1 locs1 :=
  ⟨Nat.le_trans h1.1 h2.1, fun q a b => by rw [h2.2.1 q (Nat.lt_of_lt_of_le a h1.1) b]; exact h1.2.1 q a b, h2.2.2⟩
theorem hc_S0 (h1 : va_S (fun q => base ≤ q) s.heap H locs) : va_S (fun q => base ≤ q) H H locs := ⟨Nat.le_refl _, fun _ _ _ => rfl, h1.2.2⟩
/-- the cells of a world -/
def hc_cws (D : va_G) (cA : Nat → ClassId) (base : Nat) (ad : Nat → Nat) (sL : Nat) (xs : Nat → Int32) (h : hc_H) (H : Heap) (cw : List va_E) : Prop :=
  h.1 = cw.length + 22 ∧ H.size = base + cw.length ∧ (∀ (i : Nat) (e : va_E), cw[i]? = some e → hc_cr ad cA (h.2.2 (i + 22)) e) ∧ va_P D vwCl (hc_ws base cw) H ∧ (∀ k, h.1 ≤ k → h.2.2 k = hc_dead) ∧ ∀ k, k < 22 → h.2.2 k = hc_sp sL xs k
theorem hc_cell {r : Nat} {E : hc_E} {cw : List va_E} (hc : hc_cws D cA base (hc_ad base b0 adK) sL xs h H cw) (hE : h.2.2 r = E) (hd : E ≠ hc_dead) (hs : ∀ k, E ≠ hc_sp sL xs k) : ∃ e, (hc_ws base cw)[r - 22]? = some ((hc_ad base b0 adK) r, e) ∧ hc_cr (hc_ad base b0 adK) cA E e ∧ 22 ≤ r ∧ r < h.1 := by
  obtain ⟨c1, c2, c3, c4, c5, c6⟩ := hc
  have h1 : 22 ≤ r := by
    rcases Nat.lt_or_ge r 22 with q | q
    · exact absurd (hE.symm.trans (c6 r q)) (hs r)
    · exact q
  have h2 : r < h.1 := by
    rcases Nat.lt_or_ge r h.1 with q | q
    · exact q
    · exact absurd (hE.symm.trans (c5 r q)) hd
  have h3 : r - 22 < cw.length := by omega
  refine ⟨cw[r - 22], ?_, ?_, h1, h2⟩
  · rw [hc_ws_at, List.getElem?_eq_getElem h3]
    simp only [Option.map_some, Option.some.injEq, Prod.mk.injEq, and_true]
    unfold hc_ad
    rw [if_neg (by omega)]
  · have := c3 (r - 22) _ (List.getElem?_eq_getElem h3)
    rw [show r - 22 + 22 = r by omega, hE] at this
    exact this
theorem hc_ob_d {ci : Nat} {vs : List hc_V} (h : ci < 11) : (.inr (ci, vs) : hc_E) ≠ hc_dead := by
  intro q
  simp only [hc_dead, Sum.inr.injEq, Prod.mk.injEq] at q
  omega
theorem hc_ob_s {ci : Nat} {vs : List hc_V} (k : Nat) : (.inr (ci, vs) : hc_E) ≠ hc_sp sL xs k := by
  cases k <;> simp [hc_sp]
theorem hc_ar_d {a : Nat × Nat × ((Nat → Int) ⊕ (Nat → Option Nat))} : (.inl a : hc_E) ≠ hc_dead := by simp [hc_dead]
theorem hc_ar_s {t n : Nat} {f : (Nat → Int) ⊕ (Nat → Option Nat)} (h : t < 8) (k : Nat) : (.inl (t, n, f) : hc_E) ≠ hc_sp sL xs k := by
  cases k <;> simp [hc_sp] <;> omega
/-- a cell is written -/
theorem hs_wr {r : Nat} {E' : hc_E} {e' : va_E} {cw : List va_E} {st1 : List hc_V} {stk1 : List Value} (hc : hc_cws D cA base (hc_ad base b0 adK) sL xs h H cw) (hr1 : 22 ≤ r) (hr2 : r < h.1) (hE : hc_cr (hc_ad base b0 adK) cA E' e') (hsr : hc_sr (hc_ad base b0 adK) st1 stk1) (hk : hc_go nx L st1 (hc_wr h r E') = some (.inr (.inl (pc', L', st', h'))))
    (row : (∀ (H1 : Heap) (locs1 : List Loc), va_P D vwCl ((hc_ws base cw).set (r - 22) ((hc_ad base b0 adK) r, e')) H1 → va_D (fun q => base ≤ q) ((hc_ws base cw).set (r - 22) ((hc_ad base b0 adK) r, e')) → va_S (fun q => base ≤ q) H H1 locs1 → W p l e R s m args below meth c H1 locs1 cells slots Q (F0 m nx ls stk1)) → W p l e R s m args below meth c H locs cells slots Q (F0 m pc ls stk))
    (hat : hc_at D cA base b0 adK sL xs s nL L st h ls stk H locs cells) (kk : ∀ (ls : Array Slot) (stk : List Value) (H : Heap) (locs : List Loc), hc_at D cA base b0 adK sL xs s nL L' st' h' ls stk H locs (cells + (h'.1 - h.1)) → W p l e R s m args below meth c H locs (cells + (h'.1 - h.1)) (slots + (h'.2.1 - h.2.1)) Q (F0 m pc' ls stk)) : W p l e R s m args below meth c H locs cells slots Q (F0 m pc ls stk) := by
  simp only [hc_go, Option.some.injEq, Sum.inr.injEq, Sum.inl.injEq, Prod.mk.injEq] at hk
  obtain ⟨rfl, rfl, rfl, rfl⟩ := hk
  obtain ⟨h1, h2, h3, h4, h5⟩ := hat
  refine row fun H1 locs1 hP1 hD1 hS1 => ?_
  refine hc_Wsz fun hz => ?_
  have hsz : H1.size = H.size := Nat.le_antisymm (by omega) hS1.1
  obtain ⟨c1, c2, c3, c4, c5, c6⟩ := hc
  have hadr : (hc_ad base b0 adK) r = base + (r - 22) := by unfold hc_ad; rw [if_neg (by omega)]
  rw [hadr, hc_ws_set] at hP1
  have q := kk ls stk1 H1 locs1 ⟨h1, hsr, ⟨cw.set (r - 22) e', by simpa [hc_wr] using c1, by rw [hsz, c2]; simp, fun i e he => ?_, hP1, fun k hk => ?_, fun k hk => ?_⟩, hc_S2 h4 hS1, by simp [hc_wr, hsz, h5]⟩
  · simpa [hc_wr] using q
  · rw [List.getElem?_set] at he
    by_cases hi : r - 22 = i
    · rw [if_pos hi] at he
      have hl : r - 22 < cw.length := by omega
      rw [if_pos (by omega)] at he
      cases he
      have : i + 22 = r := by omega
      rw [this]
      simpa [hc_wr, hc_up] using hE
    · rw [if_neg hi] at he
      have : Nat.beq (i + 22) r = false := hc_bne (by omega)
      simp only [hc_wr, hc_up, this, cond_false]
      exact c3 i e he
  · have hk' : h.1 ≤ k := hk
    have : Nat.beq k r = false := hc_bne (by omega)
    simp only [hc_wr, hc_up, this, cond_false]
    exact c5 k hk'
  · have : Nat.beq k r = false := hc_bne (by omega)
    simp only [hc_wr, hc_up, this, cond_false]
    exact c6 k hk
/-- a cell is made -/
theorem hs_al {n : Nat} {E' : hc_E} {e' : va_E} {cw : List va_E} {st1 : List hc_V} {stk1 : List Value} (hc : hc_cws D cA base (hc_ad base b0 adK) sL xs h H cw) (hE : hc_cr (hc_ad base b0 adK) cA E' e') (hsr : hc_sr (hc_ad base b0 adK) st1 stk1) (hk : hc_go nx L (xR h.1 :: st1) (hc_al h n E') = some (.inr (.inl (pc', L', st', h'))))
    (row : (∀ (q : Nat) (H1 : Heap), va_P D vwCl (hc_ws base cw ++ [(q, e')]) H1 → va_D (fun q => base ≤ q) (hc_ws base cw ++ [(q, e')]) → va_S (fun q => base ≤ q) H H1 locs → W p l e R s m args below meth c H1 locs (cells + 1) (slots + n) Q (F0 m nx ls (.ref q :: stk1))) → W p l e R s m args below meth c H locs cells slots Q (F0 m pc ls stk))
    (hat : hc_at D cA base b0 adK sL xs s nL L st h ls stk H locs cells) (kk : ∀ (ls : Array Slot) (stk : List Value) (H : Heap) (locs : List Loc), hc_at D cA base b0 adK sL xs s nL L' st' h' ls stk H locs (cells + (h'.1 - h.1)) → W p l e R s m args below meth c H locs (cells + (h'.1 - h.1)) (slots + (h'.2.1 - h.2.1)) Q (F0 m pc' ls stk)) : W p l e R s m args below meth c H locs cells slots Q (F0 m pc ls stk) := by
  simp only [hc_go, Option.some.injEq, Sum.inr.injEq, Sum.inl.injEq, Prod.mk.injEq] at hk
  obtain ⟨rfl, rfl, rfl, rfl⟩ := hk
  obtain ⟨h1, h2, h3, h4, h5⟩ := hat
  refine row fun q H1 hP1 hD1 hS1 => ?_
  refine hc_Wsz fun hz => ?_
  obtain ⟨c1, c2, c3, c4, c5, c6⟩ := hc
  have hlast : (hc_ws base cw ++ [(q, e')])[cw.length]? = some (q, e') := by
    rw [List.getElem?_append_right (by rw [hc_ws_len]; exact Nat.le_refl _), hc_ws_len, Nat.sub_self]
    rfl
  have hq1 : base ≤ q := hD1.2 _ _ hlast
  have hq2 : q < H1.size := (hP1 _ _ hlast).lt
  have hq3 : ¬ q < H.size := by
    intro hq
    have hl : q - base < cw.length := by omega
    have hat : (hc_ws base cw ++ [(q, e')])[q - base]? = some (q, cw[q - base]) := by
      rw [List.getElem?_append_left (by rw [hc_ws_len]; exact hl), hc_ws_at, List.getElem?_eq_getElem hl]
      simp only [Option.map_some, Option.some.injEq, Prod.mk.injEq, and_true]
      omega
    have := hD1.1 _ _ _ _ hat hlast rfl
    omega
  have hqe : q = base + cw.length := by omega
  have hsz : H1.size = H.size + 1 := by omega
  have hadr : (hc_ad base b0 adK) h.1 = q := by unfold hc_ad; rw [if_neg (by omega)]; omega
  subst hqe
  rw [← hc_ws_app] at hP1
  have qq := kk ls (.ref (base + cw.length) :: stk1) H1 locs ⟨h1, ⟨by rw [← hadr]; exact hc_mkR, hsr⟩, ⟨cw ++ [e'], by simp only [hc_al, c1, List.length_append, List.length_cons, List.length_nil] <;> omega, by rw [hsz, c2]; simp only [List.length_append, List.length_cons, List.length_nil] <;> omega, fun i e he => ?_, hP1, fun k hk => ?_, fun k hk => ?_⟩, hc_S2 h4 hS1, by simp only [hc_al] <;> omega⟩
  · have e1 : (hc_al h n E').1 - h.1 = 1 := by simp [hc_al]
    have e2 : (hc_al h n E').2.1 - h.2.1 = n := by simp [hc_al]
    rw [e1, e2] at qq
    exact qq
  · by_cases hi : i < cw.length
    · rw [List.getElem?_append_left hi] at he
      have : Nat.beq (i + 22) h.1 = false := hc_bne (by omega)
      simp only [hc_al, hc_up, this, cond_false]
      exact c3 i e he
    · rw [List.getElem?_append_right (by omega)] at he
      have hi0 : i - cw.length < 1 := (List.getElem?_eq_some_iff.mp he).1
      rw [show i - cw.length = 0 by omega] at he
      cases he
      have : i + 22 = h.1 := by omega
      rw [this]
      simpa [hc_al, hc_up] using hE
  · have hk' : h.1 + 1 ≤ k := hk
    have : Nat.beq k h.1 = false := hc_bne (by omega)
    simp only [hc_al, hc_up, this, cond_false]
    exact c5 k (by omega)
  · have : Nat.beq k h.1 = false := hc_bne (by omega)
    simp only [hc_al, hc_up, this, cond_false]
    exact c6 k hk
end HW
