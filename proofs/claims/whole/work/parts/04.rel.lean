/-! WHAT A STATE OF THE PURE MACHINE SAYS OF THE MACHINE's. -/
def hc_dead : hc_E := .inr (1000, [])
def hc_sp (sL : Nat) (xs : Nat → Int32) (k : Nat) : hc_E := match k with
  | 0 => .inl (9, sL, .inl (fun j => (xs j).toInt))
  | i + 1 => .inl (8, (hc_SB.getD i []).length, .inl (fun j => (hc_SB.getD i []).getD j 0))
def hc_ad (base b : Nat) (adK : Nat → Nat) (k : Nat) : Nat := if k < 22 then (if k = 0 then b else adK (k - 1)) else base + (k - 22)
def hc_vr (ad : Nat → Nat) (v : hc_V) (w : Value) : Prop := match v with
  | some (.inl x) => ∃ z : Int32, w = .int z ∧ z.toInt = x
  | some (.inr (.inl x)) => ∃ z : Int64, w = .long z ∧ z.toInt = x
  | some (.inr (.inr r)) => w = va_rf (r.map ad)
  | none => False
def hc_sr (ad : Nat → Nat) : List hc_V → List Value → Prop
  | [], [] => True
  | v :: vs, w :: ws => hc_vr ad v w ∧ hc_sr ad vs ws
  | _, _ => False
def hc_lr (ad : Nat → Nat) (L : List hc_V) (ls : Array Slot) (nL : Nat) : Prop := ls.size = nL ∧ lv_wf ls ∧ L.length = nL ∧ ∀ (i : Nat) (v : hc_V), hc_gt L i = some v → v ≠ none → ∃ w, hc_vr ad v w ∧ ls[i]? = some (.val w)
def hc_cr (ad : Nat → Nat) (cA : Nat → ClassId) (E : hc_E) (e : va_E) : Prop := match E with
  | .inl (t, n, .inl f) => (t = 0 ∧ ∃ g : Nat → Int32, e = .inl (cA 0, n, .inl g) ∧ ∀ j, (g j).toInt = f j) ∨ (t = 1 ∧ ∃ g : Nat → Int64, e = .inl (cA 1, n, .inr (.inl g)) ∧ ∀ j, (g j).toInt = f j) ∨ (t = 2 ∧ ∃ g : Nat → Int32, e = .inl (cA 2, n, .inl g) ∧ ∀ j, (g j).toInt = f j)
  | .inl (t, n, .inr f) => t = 3 ∧ e = .inl (cA 3, n, .inr (.inr (.inr (.inr (fun j => (f j).map ad)))))
  | .inr (ci, vs) => ∃ fs, e = .inr (ci, fs) ∧ hc_sr ad vs fs
def hc_ws : Nat → List va_E → va_W
  | _, [] => []
  | b, e :: l => (b, e) :: hc_ws (b + 1) l
theorem hc_ws_at : ∀ (cw : List va_E) (b i : Nat), (hc_ws b cw)[i]? = (cw[i]?).map (fun e => (b + i, e))
  | [], b, i => by simp [hc_ws]
  | e :: l, b, 0 => by simp [hc_ws]
  | e :: l, b, i + 1 => by
    rw [hc_ws, List.getElem?_cons_succ, List.getElem?_cons_succ, hc_ws_at l (b + 1) i, show b + 1 + i = b + (i + 1) by omega]
theorem hc_ws_len : ∀ (cw : List va_E) (b : Nat), (hc_ws b cw).length = cw.length
  | [], b => rfl
  | e :: l, b => by simp [hc_ws, hc_ws_len l (b + 1)]
theorem hc_ws_set : ∀ (cw : List va_E) (b i : Nat) (e : va_E), (hc_ws b cw).set i (b + i, e) = hc_ws b (cw.set i e)
  | [], b, i, e => by simp [hc_ws]
  | a :: l, b, 0, e => by simp [hc_ws]
  | a :: l, b, i + 1, e => by
    rw [hc_ws, List.set_cons_succ, List.set_cons_succ, hc_ws, show b + (i + 1) = b + 1 + i by omega, hc_ws_set l (b + 1) i e]
theorem hc_ws_app : ∀ (cw : List va_E) (b : Nat) (e : va_E), hc_ws b (cw ++ [e]) = hc_ws b cw ++ [(b + cw.length, e)]
  | [], b, e => by simp [hc_ws]
  | a :: l, b, e => by
    rw [List.cons_append, hc_ws, hc_ws, List.cons_append, hc_ws_app l (b + 1) e, List.length_cons, show b + 1 + l.length = b + (l.length + 1) by omega]
theorem hc_ws_D (cw : List va_E) (base : Nat) : va_D (fun q => base ≤ q) (hc_ws base cw) := by
  refine ⟨fun i j p q hi hj h => ?_, fun k q h => ?_⟩
  · rw [hc_ws_at] at hi hj
    simp only [Option.map_eq_some_iff] at hi hj
    obtain ⟨e1, -, rfl⟩ := hi
    obtain ⟨e2, -, rfl⟩ := hj
    simp only at h
    omega
  · rw [hc_ws_at] at h
    simp only [Option.map_eq_some_iff] at h
    obtain ⟨e1, -, rfl⟩ := h
    simp only
    omega
def hc_rel (D : va_G) (cA : Nat → ClassId) (base : Nat) (ad : Nat → Nat) (sL : Nat) (xs : Nat → Int32) (h : hc_H) (H : Heap) : Prop :=
  ∃ cw : List va_E, h.1 = cw.length + 22 ∧ H.size = base + cw.length ∧ (∀ (i : Nat) (e : va_E), cw[i]? = some e → hc_cr ad cA (h.2.2 (i + 22)) e) ∧ va_P D vwCl (hc_ws base cw) H ∧ (∀ k, h.1 ≤ k → h.2.2 k = hc_dead) ∧ ∀ k, k < 22 → h.2.2 k = hc_sp sL xs k
def hc_tys (cA : Nat → ClassId) : List (ClassId × FieldType) := [(cA 0, .int), (cA 1, .long), (cA 2, .boolean), (cA 3, .object "CathedralCoin$Text")]
def hc_lens : List Nat := hc_SB.map List.length
def hc_byts : List (List Int32) := hc_SB.map (fun l => l.map Int32.ofInt)
def hc_nm (U : State) (n : String) (c : ClassId) : Prop := U.vm.findClass n = some c
/-- what stands outside the world, and never moves: the script, the String constants, the classes' statics, the links to nest mates -/
def hc_X (D : va_G) (cA : Nat → ClassId) (base b : Nat) (adK adV : Nat → Nat) (sL : Nat) (xs : Nat → Int32) (U : State) : Prop :=
  va_K D vwCl (hc_tys cA) U ∧ (va_X b sL xs U U.heap ∧ b < base ∧ base ≤ U.heap.size ∧ sL ≤ 3072) ∧ (vk_S 21 hc_lens hc_byts adK adV (fun q => base ≤ q) U U.heap ∧ ∀ (i : Nat) (o : String) (j : Nat) (tx : String), hc_gt hc_S i = some (o, j, tx) → vk_R o j tx (adK i) U) ∧ (∀ w ∈ lw_tbl, hc_nst w = true → va_Nw w U) ∧
  (va_Z "java/lang/String" "COMPACT_STRINGS" "Z" (.int 1) (fun q => base ≤ q) U U.heap ∧ va_Zq "jdk/internal/util/Preconditions" "SIOOBE_FORMATTER" "Ljava/util/function/BiFunction;" (fun q => base ≤ q) U U.heap) ∧
  (hc_nm U "[I" (cA 0) ∧ va_AO "CathedralCoin$Text" U ∧ va_Nw (.castable "[I" "java/lang/Cloneable") U)
theorem hc_nstT {w : Cond} (h : hc_nst w = true) : w.onTables = true := by
  cases w <;> first | rfl | (simp [hc_nst] at h)
theorem hc_Nw_warm {w : Cond} (h : hc_nst w = true) {s U : State} (hW : s.WarmedH U.vm) (hZ : va_Nw w s) : va_Nw w U := by
  cases w <;> first | exact va_Nw.warmF hW hZ | exact va_Nw.warmM hW hZ | (simp [hc_nst] at h)
theorem hc_X.moved {D : va_G} {cA : Nat → ClassId} {base b : Nat} {adK adV : Nat → Nat} {sL : Nat} {xs : Nat → Int32} {s U : State} {locs : List Loc} (h : hc_X D cA base b adK adV sL xs s) (hW : s.WarmedH U.vm) (hS : va_S (fun q => base ≤ q) s.heap U.heap locs) : hc_X D cA base b adK adV sL xs U := by
  obtain ⟨hK, ⟨hX, hb, hsz, hL⟩, ⟨hV, hR⟩, hN, ⟨hZ, hZq⟩, hn, ho, hcl⟩ := h
  have hal := hW.alike
  have hkept : ∀ a : Nat, a < s.heap.size → ¬ (base ≤ a) → U.heap[a]? = s.heap[a]? := fun a h1 h2 => hS.2.1 a h1 h2
  refine ⟨va_K.moved hal hK, ⟨va_X.moved hal (hX.kept (hkept b (by omega) (by omega))), hb, Nat.le_trans hsz hS.1, hL⟩, ⟨vk_S.moved hal (hV.kept hkept), fun i o j tx h => (hR i o j tx h).warm hW⟩, fun w hw h => hc_Nw_warm h hW (hN w hw h), ⟨va_Z.moved hal (hZ.kept hkept), va_Zq.moved hal (hZq.kept hkept)⟩, ?_, va_AO.moved hal ho, va_Nw.warmC hW hcl⟩
  show U.vm.findClass _ = _
  rw [hal.findClass]
  exact hn
theorem hc_X.calling {D : va_G} {cA : Nat → ClassId} {base b : Nat} {adK adV : Nat → Nat} {sL : Nat} {xs : Nat → Int32} {U : State} (h : hc_X D cA base b adK adV sL xs U) (g : JFrame) (mk : MethodId) (a : Array Value) : hc_X D cA base b adK adV sL xs (U.calling g mk a) := by
  obtain ⟨hK, ⟨hX, hb, hsz, hL⟩, ⟨hV, hR⟩, hN, ⟨hZ, hZq⟩, hn, ho, hcl⟩ := h
  have hal : U.vm.Alike (U.calling g mk a).vm := Vm.Alike.refl U.vm
  have hkept : ∀ a' : Nat, a' < U.heap.size → ¬ (base ≤ a') → (U.calling g mk a).heap[a']? = U.heap[a']? := fun _ _ _ => rfl
  exact ⟨va_K.moved hal hK, ⟨va_X.moved hal (hX.kept rfl), hb, hsz, hL⟩, ⟨vk_S.moved hal (hV.kept hkept), fun i o j tx h => (hR i o j tx h).same rfl⟩, fun w hw h => va_Nw.same (u := U) (U := U.calling g mk a) (hc_nstT h) rfl (hN w hw h), ⟨va_Z.moved hal (hZ.kept hkept), va_Zq.moved hal (hZq.kept hkept)⟩, hn, va_AO.moved hal ho, va_Nw.same (u := U) (U := U.calling g mk a) rfl rfl hcl⟩
