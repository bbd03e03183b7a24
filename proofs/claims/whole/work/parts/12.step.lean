/-! one step: every instruction -/
theorem hc_un {bytes : ByteArray} {pc n nx : Nat} {i : Instr} {q : Bool} (h : (decide (decode bytes pc = .ok (i, n)) && Nat.beq nx (pc + n) && q) = true) : decode bytes pc = .ok (i, n) ∧ nx = pc + n ∧ q = true := by
  simp only [Bool.and_eq_true, decide_eq_true_eq] at h
  exact ⟨h.1.1, Nat.eq_of_beq_eq_true h.1.2, h.2⟩
theorem hc_rg {n lo hi : Int} (h : (decide (lo ≤ n) && decide (n ≤ hi)) = true) : lo ≤ n ∧ n ≤ hi := by
  simpa using h
theorem hc_sz_eq {ad : Nat → Nat} : ∀ {st : List hc_V} {stk : List Value}, hc_sr ad st stk → (stk.map fun v => v.category).sum = hc_sz st
  | [], [], _ => rfl
  | [], w :: ws, h => by simp [hc_sr] at h
  | v :: vs, [], h => by simp [hc_sr] at h
  | v :: vs, w :: ws, h => by
    have ih := hc_sz_eq h.2
    simp only [List.map_cons, List.sum_cons, ih]
    match v, h.1 with
    | some (.inl x), ⟨z, hz, _⟩ => subst hz; rfl
    | some (.inr (.inl x)), ⟨z, hz, _⟩ => subst hz; rfl
    | some (.inr (.inr none)), hz => cases hz; rfl
    | some (.inr (.inr (some r))), hz => cases hz; rfl
theorem hc_i8 {n : Int} (h1 : -128 ≤ n) (h2 : n ≤ 127) : ((Int8.ofInt n).toInt32).toInt = n := by
  have : (Int8.ofInt n).toInt = n := by
    rw [Int8.toInt_ofInt]
    simp only [Int.bmod, Int8.size]
    split <;> omega
  rw [Int8.toInt_toInt32]
  exact this
theorem hc_i16 {n : Int} (h1 : -32768 ≤ n) (h2 : n ≤ 32767) : ((Int16.ofInt n).toInt32).toInt = n := by
  have : (Int16.ofInt n).toInt = n := by
    rw [Int16.toInt_ofInt]
    simp only [Int.bmod, Int16.size]
    split <;> omega
  rw [Int16.toInt_toInt32]
  exact this
theorem hc_eq0 {z y : Int32} {a b : Int} (h1 : z.toInt = a) (h2 : y.toInt = b) : z = y ↔ a = b := by
  rw [← h1, ← h2]
  exact Int32.toInt_inj.symm
theorem hc_lt0 {z y : Int32} {a b : Int} (h1 : z.toInt = a) (h2 : y.toInt = b) : z < y ↔ a < b := by
  rw [← h1, ← h2]
  exact Int32.lt_iff_toInt_lt
theorem hc_le0 {z y : Int32} {a b : Int} (h1 : z.toInt = a) (h2 : y.toInt = b) : z ≤ y ↔ a ≤ b := by
  rw [← h1, ← h2]
  exact Int32.le_iff_toInt_le
theorem hc_cmpT (x y : Int64) : (lg_cmp x y).toInt = hc_cmp3 x.toInt y.toInt := by
  unfold lg_cmp hc_cmp3
  by_cases h1 : y.toInt < x.toInt
  · rw [if_pos (show x > y from Int64.lt_iff_toInt_lt.mpr h1), if_pos h1]
    rfl
  · rw [if_neg (show ¬ x > y from fun q => h1 (Int64.lt_iff_toInt_lt.mp q)), if_neg h1]
    by_cases h2 : x.toInt = y.toInt
    · rw [if_pos (Int64.toInt_inj.mp h2), if_pos h2]
      rfl
    · rw [if_neg (fun q => h2 (by rw [q])), if_neg h2]
      rfl
theorem hc_acls : Cond.arrayClass .int ∈ lw_tbl.filter goodWord ∧ Cond.arrayClass .long ∈ lw_tbl.filter goodWord ∧ Cond.arrayClass .boolean ∈ lw_tbl.filter goodWord := by decide +kernel
theorem hc_mw1 : Cond.static Lib.Math.max.name ∈ lw_tbl.filter goodWord ∧ Cond.static Lib.Math.min.name ∈ lw_tbl.filter goodWord ∧ Cond.static Lib.Math.abs.name ∈ lw_tbl.filter goodWord ∧ Cond.initialized "java/lang/Math" ∈ lw_tbl.filter goodWord := by decide +kernel
theorem hc_mw2 : Cond.code Lib.Math.max.name Lib.Math.max.code 2 (some .int) ∈ lw_tbl.filter goodWord ∧ Cond.code Lib.Math.min.name Lib.Math.min.code 2 (some .int) ∈ lw_tbl.filter goodWord ∧ Cond.code Lib.Math.abs.name Lib.Math.abs.code 1 (some .int) ∈ lw_tbl.filter goodWord := by decide +kernel
section SP
variable {p : Program} {l : Launch} {e : Env} {R : Room} {s : State} {m : MethodId} {args : Array Value} {below : List Frame} {meth : Method} {c : Code} {H : Heap} {locs : List Loc} {cells slots : Nat} {Q : State → Prop}
variable {D : va_G} {cA : Nat → ClassId} {base b0 : Nat} {adK adV : Nat → Nat} {sL : Nat} {xs : Nat → Int32}
variable {L st L' st' : List hc_V} {h h' : hc_H} {ls : Array Slot} {stk : List Value} {nL pc pc' nx i : Nat}
theorem hs_br {P : Prop} {b : Bool} {a : Nat} {st1 : List hc_V} {stk1 : List Value} (hP : P ↔ b = true) (hsr : hc_sr (hc_ad base b0 adK) st1 stk1) (hk : (bif b then hc_go a L st1 h else hc_go nx L st1 h) = some (.inr (.inl (pc', L', st', h')))) (row : (P → W p l e R s m args below meth c H locs cells slots Q (F0 m a ls stk1)) → (¬ P → W p l e R s m args below meth c H locs cells slots Q (F0 m nx ls stk1)) → W p l e R s m args below meth c H locs cells slots Q (F0 m pc ls stk)) (hat : hc_at D cA base b0 adK sL xs s nL L st h ls stk H locs cells) (kk : ∀ (ls : Array Slot) (stk : List Value) (H : Heap) (locs : List Loc), hc_at D cA base b0 adK sL xs s nL L' st' h' ls stk H locs (cells + (h'.1 - h.1)) → W p l e R s m args below meth c H locs (cells + (h'.1 - h.1)) (slots + (h'.2.1 - h.2.1)) Q (F0 m pc' ls stk)) : W p l e R s m args below meth c H locs cells slots Q (F0 m pc ls stk) := by
  cases b with
  | true =>
    exact hs_to hsr (nx := a) hk (fun k2 => row (fun _ => k2) (fun q => absurd (hP.mpr rfl) q)) hat kk
  | false =>
    exact hs_to hsr (nx := nx) hk (fun k2 => row (fun q => absurd (hP.mp q) (by decide)) (fun _ => k2)) hat kk
theorem hs_if {q : ClassFile.Cond} {off : Int} {mi : hc_M} {d a : Nat} (hC : hc_C D cA base b0 adK adV sL xs mi p s m args meth c R d) (hdg : decode mi.2.1 pc = .ok (.ifCond q off, 3)) (hnx : nx = pc + 3) (ht : (pc : Int) + off = (a : Int)) (hk : hc_if q a nx L st h = some (.inr (.inl (pc', L', st', h')))) (hat : hc_at D cA base b0 adK sL xs s nL L st h ls stk H locs cells) (kk : ∀ (ls : Array Slot) (stk : List Value) (H : Heap) (locs : List Loc), hc_at D cA base b0 adK sL xs s nL L' st' h' ls stk H locs (cells + (h'.1 - h.1)) → W p l e R s m args below meth c H locs (cells + (h'.1 - h.1)) (slots + (h'.2.1 - h.2.1)) Q (F0 m pc' ls stk)) : W p l e R s m args below meth c H locs cells slots Q (F0 m pc ls stk) := by
  subst hnx
  have hx := hC.1
  have hb := hC.2.1
  unfold hc_if at hk
  split at hk
  next x st1 =>
    obtain ⟨w, ws, rfl, ⟨z, rfl, hz⟩, hsr⟩ := hc_sr_cons hat.2.1
    have h0 : (0 : Int32).toInt = 0 := rfl
    cases q with
    | eq => exact hs_br (by simpa [hc_c0] using hc_eq0 hz h0) hsr hk (fun kt kf => lv_if_eq hx hb hdg ht kt kf) hat kk
    | ne => exact hs_br (P := ¬ z = 0) (by simpa [hc_c0] using not_congr (hc_eq0 hz h0)) hsr hk (fun kt kf => lv_if_ne hx hb hdg ht kt (fun q => kf (fun z => z q))) hat kk
    | lt => exact hs_br (by simpa [hc_c0] using hc_lt0 hz h0) hsr hk (fun kt kf => lv_if_lt hx hb hdg ht kt kf) hat kk
    | ge => exact hs_br (by simpa [hc_c0] using hc_le0 h0 hz) hsr hk (fun kt kf => lv_if_ge hx hb hdg ht kt kf) hat kk
    | gt => exact hs_br (by simpa [hc_c0] using hc_lt0 h0 hz) hsr hk (fun kt kf => lv_if_gt hx hb hdg ht kt kf) hat kk
    | le => exact hs_br (by simpa [hc_c0] using hc_le0 hz h0) hsr hk (fun kt kf => lv_if_le hx hb hdg ht kt kf) hat kk
  next => cases hk
theorem hs_icmp {q : ClassFile.Cond} {off : Int} {mi : hc_M} {d a : Nat} (hC : hc_C D cA base b0 adK adV sL xs mi p s m args meth c R d) (hdg : decode mi.2.1 pc = .ok (.if_icmp q off, 3)) (hnx : nx = pc + 3) (ht : (pc : Int) + off = (a : Int)) (hk : hc_icmp q a nx L st h = some (.inr (.inl (pc', L', st', h')))) (hat : hc_at D cA base b0 adK sL xs s nL L st h ls stk H locs cells) (kk : ∀ (ls : Array Slot) (stk : List Value) (H : Heap) (locs : List Loc), hc_at D cA base b0 adK sL xs s nL L' st' h' ls stk H locs (cells + (h'.1 - h.1)) → W p l e R s m args below meth c H locs (cells + (h'.1 - h.1)) (slots + (h'.2.1 - h.2.1)) Q (F0 m pc' ls stk)) : W p l e R s m args below meth c H locs cells slots Q (F0 m pc ls stk) := by
  subst hnx
  have hx := hC.1
  have hb := hC.2.1
  unfold hc_icmp at hk
  split at hk
  next y x st1 =>
    obtain ⟨w, ws9, rfl, ⟨zy, rfl, hy⟩, hsr9⟩ := hc_sr_cons hat.2.1
    obtain ⟨w, ws, rfl, ⟨zx, rfl, hz⟩, hsr⟩ := hc_sr_cons hsr9
    cases q with
    | eq => exact hs_br (by simpa [hc_c0] using hc_eq0 hz hy) hsr hk (fun kt kf => lv_icmp_eq hx hb hdg ht kt kf) hat kk
    | ne => exact hs_br (P := ¬ zx = zy) (by simpa [hc_c0] using not_congr (hc_eq0 hz hy)) hsr hk (fun kt kf => lv_icmp_ne hx hb hdg ht kt (fun q => kf (fun z => z q))) hat kk
    | lt => exact hs_br (by simpa [hc_c0] using hc_lt0 hz hy) hsr hk (fun kt kf => lv_icmp_lt hx hb hdg ht kt kf) hat kk
    | ge => exact hs_br (by simpa [hc_c0] using hc_le0 hy hz) hsr hk (fun kt kf => lv_icmp_ge hx hb hdg ht kt kf) hat kk
    | gt => exact hs_br (by simpa [hc_c0] using hc_lt0 hy hz) hsr hk (fun kt kf => lv_icmp_gt hx hb hdg ht kt kf) hat kk
    | le => exact hs_br (by simpa [hc_c0] using hc_le0 hz hy) hsr hk (fun kt kf => lv_icmp_le hx hb hdg ht kt kf) hat kk
  next => cases hk
theorem hs_jmp {off : Int} {st1 : List hc_V} {stk1 : List Value} (hsr : hc_sr (hc_ad base b0 adK) st1 stk1) (hk : hc_jmp pc off L st1 h = some (.inr (.inl (pc', L', st', h')))) (row : ∀ tgt : Nat, (pc : Int) + off = (tgt : Int) → W p l e R s m args below meth c H locs cells slots Q (F0 m tgt ls stk1) → W p l e R s m args below meth c H locs cells slots Q (F0 m pc ls stk)) (hat : hc_at D cA base b0 adK sL xs s nL L st h ls stk H locs cells) (kk : ∀ (ls : Array Slot) (stk : List Value) (H : Heap) (locs : List Loc), hc_at D cA base b0 adK sL xs s nL L' st' h' ls stk H locs (cells + (h'.1 - h.1)) → W p l e R s m args below meth c H locs (cells + (h'.1 - h.1)) (slots + (h'.2.1 - h.2.1)) Q (F0 m pc' ls stk)) : W p l e R s m args below meth c H locs cells slots Q (F0 m pc ls stk) := by
  unfold hc_jmp at hk
  split at hk
  next h0 => exact hs_to hsr (nx := ((pc : Int) + off).toNat) hk (fun k2 => row _ (by omega) k2) hat kk
  next => cases hk
theorem hs_tsw {df lo hi : Int} {offs : Array Int} {len : Nat} {mi : hc_M} {d : Nat} (hC : hc_C D cA base b0 adK adV sL xs mi p s m args meth c R d) (hdg : decode mi.2.1 pc = .ok (.tableswitch df lo hi offs, len)) (hk : hc_tsw pc df lo hi offs L st h = some (.inr (.inl (pc', L', st', h')))) (hat : hc_at D cA base b0 adK sL xs s nL L st h ls stk H locs cells) (kk : ∀ (ls : Array Slot) (stk : List Value) (H : Heap) (locs : List Loc), hc_at D cA base b0 adK sL xs s nL L' st' h' ls stk H locs (cells + (h'.1 - h.1)) → W p l e R s m args below meth c H locs (cells + (h'.1 - h.1)) (slots + (h'.2.1 - h.2.1)) Q (F0 m pc' ls stk)) : W p l e R s m args below meth c H locs cells slots Q (F0 m pc ls stk) := by
  have hx := hC.1
  have hb := hC.2.1
  unfold hc_tsw at hk
  split at hk
  next x st1 =>
    obtain ⟨w, ws, rfl, ⟨z, rfl, hz⟩, hsr⟩ := hc_sr_cons hat.2.1
    split at hk
    next ho => exact hs_jmp hsr hk (fun tgt ht k2 => lv_tableOut hx hb hdg (by rw [hz]; exact ho) ht k2) hat kk
    next ho =>
      split at hk
      next off hoff =>
        refine hs_jmp hsr hk (fun tgt ht k2 => lv_tableIn hx hb hdg (by rw [hz]; omega) (by rw [hz]; omega) ?_ ht k2) hat kk
        rw [hc_gt_eq] at hoff
        rw [hz, ← Array.getElem?_toList]
        exact hoff
      next => cases hk
  next => cases hk
theorem hs_lsw {df : Int} {ps : Array (Int × Int)} {len : Nat} {mi : hc_M} {d : Nat} (hC : hc_C D cA base b0 adK adV sL xs mi p s m args meth c R d) (hdg : decode mi.2.1 pc = .ok (.lookupswitch df ps, len)) (hp : (ps.toList.zip (ps.toList.drop 1)).all (fun (a, next) => a.1 < next.1) = true) (hk : hc_lsw pc df ps L st h = some (.inr (.inl (pc', L', st', h')))) (hat : hc_at D cA base b0 adK sL xs s nL L st h ls stk H locs cells) (kk : ∀ (ls : Array Slot) (stk : List Value) (H : Heap) (locs : List Loc), hc_at D cA base b0 adK sL xs s nL L' st' h' ls stk H locs (cells + (h'.1 - h.1)) → W p l e R s m args below meth c H locs (cells + (h'.1 - h.1)) (slots + (h'.2.1 - h.2.1)) Q (F0 m pc' ls stk)) : W p l e R s m args below meth c H locs cells slots Q (F0 m pc ls stk) := by
  have hx := hC.1
  have hb := hC.2.1
  unfold hc_lsw at hk
  split at hk
  next x st1 =>
    obtain ⟨w, ws, rfl, ⟨z, rfl, hz⟩, hsr⟩ := hc_sr_cons hat.2.1
    exact hs_jmp hsr hk (fun tgt ht k2 => lv_lookup hx hb hdg hp (by rw [hz]) ht k2) hat kk
  next => cases hk
theorem hs_dv {mi : hc_M} {d : Nat} (hC : hc_C D cA base b0 adK adV sL xs mi p s m args meth c R d) (hdg : decode mi.2.1 pc = .ok (.idiv, 1)) (hnx : nx = pc + 1) (hk : hc_dv nx L st h = some (.inr (.inl (pc', L', st', h')))) (hat : hc_at D cA base b0 adK sL xs s nL L st h ls stk H locs cells) (kk : ∀ (ls : Array Slot) (stk : List Value) (H : Heap) (locs : List Loc), hc_at D cA base b0 adK sL xs s nL L' st' h' ls stk H locs (cells + (h'.1 - h.1)) → W p l e R s m args below meth c H locs (cells + (h'.1 - h.1)) (slots + (h'.2.1 - h.2.1)) Q (F0 m pc' ls stk)) : W p l e R s m args below meth c H locs cells slots Q (F0 m pc ls stk) := by
  subst hnx
  have hx := hC.1
  have hb := hC.2.1
  unfold hc_dv hc_p at hk
  split at hk
  next y x st1 =>
    obtain ⟨w, ws9, rfl, ⟨zy, rfl, hy⟩, hsr9⟩ := hc_sr_cons hat.2.1
    obtain ⟨w, ws, rfl, ⟨zx, rfl, hz⟩, hsr⟩ := hc_sr_cons hsr9
    split at hk
    next => cases hk
    next hy0 =>
      split at hk
      next hr =>
        refine hs_to (st1 := xI (x.tdiv y) :: st1) (stk1 := .int (zx / zy) :: ws) ⟨hc_mkI ?_, hsr⟩ hk (fun k2 => lv_idiv hx hb hdg (fun q => hy0 (by rw [← hy, q]; rfl)) k2) hat kk
        rw [Int32.toInt_div, hz, hy]
        exact hc_bm hr.1 hr.2
      next => cases hk
  next => cases hk
theorem hs_rm {mi : hc_M} {d : Nat} (hC : hc_C D cA base b0 adK adV sL xs mi p s m args meth c R d) (hdg : decode mi.2.1 pc = .ok (.irem, 1)) (hnx : nx = pc + 1) (hk : hc_rm nx L st h = some (.inr (.inl (pc', L', st', h')))) (hat : hc_at D cA base b0 adK sL xs s nL L st h ls stk H locs cells) (kk : ∀ (ls : Array Slot) (stk : List Value) (H : Heap) (locs : List Loc), hc_at D cA base b0 adK sL xs s nL L' st' h' ls stk H locs (cells + (h'.1 - h.1)) → W p l e R s m args below meth c H locs (cells + (h'.1 - h.1)) (slots + (h'.2.1 - h.2.1)) Q (F0 m pc' ls stk)) : W p l e R s m args below meth c H locs cells slots Q (F0 m pc ls stk) := by
  subst hnx
  have hx := hC.1
  have hb := hC.2.1
  unfold hc_rm at hk
  split at hk
  next y x st1 =>
    obtain ⟨w, ws9, rfl, ⟨zy, rfl, hy⟩, hsr9⟩ := hc_sr_cons hat.2.1
    obtain ⟨w, ws, rfl, ⟨zx, rfl, hz⟩, hsr⟩ := hc_sr_cons hsr9
    split at hk
    next => cases hk
    next hy0 =>
      refine hs_to (st1 := xI (x.tmod y) :: st1) (stk1 := .int (zx - zx / zy * zy) :: ws) ⟨hc_mkI ?_, hsr⟩ hk (fun k2 => lv_irem hx hb hdg (fun q => hy0 (by rw [← hy, q]; rfl)) k2) hat kk
      rw [rem_toInt, hz, hy]
  next => cases hk
theorem hs_ldv {mi : hc_M} {d : Nat} (hC : hc_C D cA base b0 adK adV sL xs mi p s m args meth c R d) (hdg : decode mi.2.1 pc = .ok (.ldiv, 1)) (hnx : nx = pc + 1) (hk : hc_ldv nx L st h = some (.inr (.inl (pc', L', st', h')))) (hat : hc_at D cA base b0 adK sL xs s nL L st h ls stk H locs cells) (kk : ∀ (ls : Array Slot) (stk : List Value) (H : Heap) (locs : List Loc), hc_at D cA base b0 adK sL xs s nL L' st' h' ls stk H locs (cells + (h'.1 - h.1)) → W p l e R s m args below meth c H locs (cells + (h'.1 - h.1)) (slots + (h'.2.1 - h.2.1)) Q (F0 m pc' ls stk)) : W p l e R s m args below meth c H locs cells slots Q (F0 m pc ls stk) := by
  subst hnx
  have hx := hC.1
  have hb := hC.2.1
  unfold hc_ldv hc_q at hk
  split at hk
  next y x st1 =>
    obtain ⟨w, ws9, rfl, ⟨zy, rfl, hy⟩, hsr9⟩ := hc_sr_cons hat.2.1
    obtain ⟨w, ws, rfl, ⟨zx, rfl, hz⟩, hsr⟩ := hc_sr_cons hsr9
    split at hk
    next => cases hk
    next hy0 =>
      split at hk
      next hr =>
        refine hs_to (st1 := xL (x.tdiv y) :: st1) (stk1 := .long (zx / zy) :: ws) ⟨hc_mkL ?_, hsr⟩ hk (fun k2 => lv_ldiv hx hb hdg (fun q => hy0 (by rw [← hy, q]; rfl)) k2) hat kk
        rw [Int64.toInt_div, hz, hy]
        exact hc_bm64 hr.1 hr.2
      next => cases hk
  next => cases hk
theorem hs_lrm {mi : hc_M} {d : Nat} (hC : hc_C D cA base b0 adK adV sL xs mi p s m args meth c R d) (hdg : decode mi.2.1 pc = .ok (.lrem, 1)) (hnx : nx = pc + 1) (hk : hc_lrm nx L st h = some (.inr (.inl (pc', L', st', h')))) (hat : hc_at D cA base b0 adK sL xs s nL L st h ls stk H locs cells) (kk : ∀ (ls : Array Slot) (stk : List Value) (H : Heap) (locs : List Loc), hc_at D cA base b0 adK sL xs s nL L' st' h' ls stk H locs (cells + (h'.1 - h.1)) → W p l e R s m args below meth c H locs (cells + (h'.1 - h.1)) (slots + (h'.2.1 - h.2.1)) Q (F0 m pc' ls stk)) : W p l e R s m args below meth c H locs cells slots Q (F0 m pc ls stk) := by
  subst hnx
  have hx := hC.1
  have hb := hC.2.1
  unfold hc_lrm at hk
  split at hk
  next y x st1 =>
    obtain ⟨w, ws9, rfl, ⟨zy, rfl, hy⟩, hsr9⟩ := hc_sr_cons hat.2.1
    obtain ⟨w, ws, rfl, ⟨zx, rfl, hz⟩, hsr⟩ := hc_sr_cons hsr9
    split at hk
    next => cases hk
    next hy0 =>
      refine hs_to (st1 := xL (x.tmod y) :: st1) (stk1 := .long (zx - zx / zy * zy) :: ws) ⟨hc_mkL ?_, hsr⟩ hk (fun k2 => lv_lrem hx hb hdg (fun q => hy0 (by rw [← hy, q]; rfl)) k2) hat kk
      rw [Jvm.Kit.i64_rem, hz, hy]
  next => cases hk
theorem hs_u1 {f : Int → Int} {g : Int32 → Int32} (hf : ∀ a : Int32, -2147483648 ≤ f a.toInt → f a.toInt ≤ 2147483647 → (g a).toInt = f a.toInt) (hk : hc_u1 f nx L st h = some (.inr (.inl (pc', L', st', h'))))
    (row : ∀ (x : Int32) (rest : List Value), stk = .int x :: rest → W p l e R s m args below meth c H locs cells slots Q (F0 m nx ls (.int (g x) :: rest)) → W p l e R s m args below meth c H locs cells slots Q (F0 m pc ls (.int x :: rest))) (hat : hc_at D cA base b0 adK sL xs s nL L st h ls stk H locs cells) (kk : ∀ (ls : Array Slot) (stk : List Value) (H : Heap) (locs : List Loc), hc_at D cA base b0 adK sL xs s nL L' st' h' ls stk H locs (cells + (h'.1 - h.1)) → W p l e R s m args below meth c H locs (cells + (h'.1 - h.1)) (slots + (h'.2.1 - h.2.1)) Q (F0 m pc' ls stk)) : W p l e R s m args below meth c H locs cells slots Q (F0 m pc ls stk) := by
  unfold hc_u1 hc_p at hk
  split at hk
  next x st1 =>
    obtain ⟨w, ws, rfl, ⟨z, rfl, hz⟩, hsr⟩ := hc_sr_cons hat.2.1
    split at hk
    next hr =>
      refine hs_to (st1 := xI (f x) :: st1) (stk1 := .int (g z) :: ws) ⟨hc_mkI ?_, hsr⟩ hk (row z ws rfl) hat kk
      rw [← hz] at hr ⊢
      exact hf z hr.1 hr.2
    next => cases hk
  next => cases hk
end SP
theorem hc_inv_ng {k a b ci nx : Nat} {L st : List hc_V} {h : hc_H} {q : Nat × List hc_V × List hc_V × hc_H} : ¬ hc_inv k a b ci nx L st h = some (.inr (.inl q)) := by
  intro e
  unfold hc_inv at e
  split at e
  · cases e
  · split at e
    · revert e; cases Nat.ble _ _ <;> simp
    · split at e
      · split at e
        · revert e; cases (_ && _) <;> simp
        · cases e
      · cases e
    · split at e
      · revert e; cases Nat.ble _ _ <;> simp
      · cases e
theorem hc_rti_ng {ty : Option FieldType} {st : List hc_V} {h : hc_H} {q : Nat × List hc_V × List hc_V × hc_H} : ¬ hc_rti ty st h = some (.inr (.inl q)) := by
  intro e
  unfold hc_rti at e
  split at e
  · split at e
    · cases e
    · split at e <;> cases e
    · cases e
  · cases e
theorem hc_rtl_ng {ty : Option FieldType} {st : List hc_V} {h : hc_H} {q : Nat × List hc_V × List hc_V × hc_H} : ¬ hc_rtl ty st h = some (.inr (.inl q)) := by
  intro e
  unfold hc_rtl at e
  split at e
  · split at e <;> cases e
  · cases e
theorem hc_rta_ng {ty : Option FieldType} {st : List hc_V} {h : hc_H} {q : Nat × List hc_V × List hc_V × hc_H} : ¬ hc_rta ty st h = some (.inr (.inl q)) := by
  intro e
  unfold hc_rta at e
  split at e
  · split at e <;> cases e
  · cases e
theorem hc_rtv_ng {ty : Option FieldType} {st : List hc_V} {h : hc_H} {q : Nat × List hc_V × List hc_V × hc_H} : ¬ hc_rtv ty st h = some (.inr (.inl q)) := by
  intro e
  unfold hc_rtv at e
  split at e
  · split at e <;> cases e
  · cases e
section SQ
variable {p : Program} {l : Launch} {e : Env} {R : Room} {s : State} {m : MethodId} {args : Array Value} {below : List Frame} {meth : Method} {c : Code} {H : Heap} {locs : List Loc} {cells slots : Nat} {Q : State → Prop}
variable {D : va_G} {cA : Nat → ClassId} {base b0 : Nat} {adK adV : Nat → Nat} {sL : Nat} {xs : Nat → Int32}
variable {L st L' st' : List hc_V} {h h' : hc_H} {ls : Array Slot} {stk : List Value} {nL pc pc' nx i : Nat}
theorem hs_prim {mi : hc_M} {d a w idx : Nat} {st0 : Bool} (hC : hc_C D cA base b0 adK adV sL xs mi p s m args meth c R d) (hdg : decode mi.2.1 pc = .ok (bif st0 then .invokestatic idx else .invokevirtual idx, 3)) (hnx : nx = pc + 3) (ho : hc_okm mi.1.cls idx a w st0 = true) (hnl : mi.2.2.1 = nL) (hk : hc_prim d a nx L st h = some (.inr (.inl (pc', L', st', h')))) (hrm : cells + (h'.1 - h.1) ≤ R.cells ∧ slots + (h'.2.1 - h.2.1) ≤ R.slots) (hat : hc_at D cA base b0 adK sL xs s nL L st h ls stk H locs cells) (kk : ∀ (ls : Array Slot) (stk : List Value) (H : Heap) (locs : List Loc), hc_at D cA base b0 adK sL xs s nL L' st' h' ls stk H locs (cells + (h'.1 - h.1)) → W p l e R s m args below meth c H locs (cells + (h'.1 - h.1)) (slots + (h'.2.1 - h.2.1)) Q (F0 m pc' ls stk)) : W p l e R s m args below meth c H locs cells slots Q (F0 m pc ls stk) := by
  unfold hc_prim at hk
  split at hk
  next => cases hk
  next d0 =>
    cases h16 : Nat.ble (hc_sz st) 8 with
    | false => rw [h16] at hk; cases hk
    | true =>
      rw [h16, cond_true] at hk
      have hx := hC.1
      have hb := hC.2.1
      have hml := hC.2.2.1
      have hown := hC.2.2.2.1
      have hts := hC.2.2.2.2.1
      have hts' := hc_htsF (Z := []) hts
      have hfr := hC.2.2.2.2.2.2.1.1
      have hlo := hC.2.2.2.2.2.2.1.2
      have hsz8 : (stk.map fun v => v.category).sum ≤ 8 := by rw [hc_sz_eq hat.2.1]; exact Nat.le_of_ble_eq_true h16
      have hsz : (stk.map fun v => v.category).sum ≤ 16 := by omega
      have hlsz : c.maxLocals = ls.size := by rw [hml, hnl]; exact hat.1.1.symm
      have hcs : cells ≤ R.cells ∧ slots ≤ R.slots := ⟨by omega, by omega⟩
      unfold hc_okm at ho
      split at hk
      next =>
        simp only [Bool.and_eq_true] at ho
        obtain ⟨rfl, hw⟩ := ho
        subst hnx
        refine hs_b3 (g := fun x y => if x < y then y else x) (fun x y => ?_) hk (fun x y rest hst k2 => ?_) hat kk
        · by_cases q : x < y
          · rw [if_pos q, if_pos (Int32.lt_iff_toInt_lt.mp q)]
          · rw [if_neg q, if_neg (fun z => q (Int32.lt_iff_toInt_lt.mpr z))]
        · rw [hst] at hsz
          simp only [List.map_cons, List.sum_cons] at hsz
          exact va_mmax hx hb hlsz hown (hts _ (hc_wmem hw).1 (hc_wmem hw).2) (hts' _ hc_mw1.1) (hts' _ hc_mw1.2.2.2) (hts' _ hc_mw2.1) (by omega) (by omega) hcs.1 hcs.2 hdg k2
      next =>
        simp only [Bool.and_eq_true] at ho
        obtain ⟨rfl, hw⟩ := ho
        subst hnx
        refine hs_b3 (g := fun x y => if y < x then y else x) (fun x y => ?_) hk (fun x y rest hst k2 => ?_) hat kk
        · by_cases q : y < x
          · rw [if_pos q, if_pos (Int32.lt_iff_toInt_lt.mp q)]
          · rw [if_neg q, if_neg (fun z => q (Int32.lt_iff_toInt_lt.mpr z))]
        · rw [hst] at hsz
          simp only [List.map_cons, List.sum_cons] at hsz
          exact va_mmin hx hb hlsz hown (hts _ (hc_wmem hw).1 (hc_wmem hw).2) (hts' _ hc_mw1.2.1) (hts' _ hc_mw1.2.2.2) (hts' _ hc_mw2.2.1) (by omega) (by omega) hcs.1 hcs.2 hdg k2
      next =>
        simp only [Bool.and_eq_true] at ho
        obtain ⟨rfl, hw⟩ := ho
        subst hnx
        refine hs_u1 (g := fun x => if 0 ≤ x then x else 0 - x) (fun x h1 h2 => ?_) hk (fun x rest hst k2 => ?_) hat kk
        · by_cases q : 0 ≤ x
          · rw [if_pos q, if_pos (by simpa using Int32.le_iff_toInt_le.mp q)]
          · have q2 : ¬ (0 : Int) ≤ x.toInt := fun z => q (Int32.le_iff_toInt_le.mpr (by simpa using z))
            rw [if_neg q2] at h1 h2
            rw [if_neg q, if_neg q2, Int32.toInt_sub]
            exact hc_bm (by simpa using h1) (by simpa using h2)
        · rw [hst] at hsz
          simp only [List.map_cons, List.sum_cons] at hsz
          exact va_mabs hx hb hlsz hown (hts _ (hc_wmem hw).1 (hc_wmem hw).2) (hts' _ hc_mw1.2.2.1) (hts' _ hc_mw1.2.2.2) (hts' _ hc_mw2.2.2) (by omega) (by omega) hcs.1 hcs.2 hdg k2
      next =>
        simp only [Bool.and_eq_true] at ho
        obtain ⟨rfl, hw⟩ := ho
        exact hs_copy hC hdg hnx hw hsz hnl hk hat kk
      next =>
        simp only [Bool.and_eq_true, Bool.not_eq_true'] at ho
        obtain ⟨rfl, hw⟩ := ho
        exact hs_clone hC hdg hnx hw hsz hnl hk hrm hat kk
      next =>
        simp only [Bool.and_eq_true, Bool.not_eq_true'] at ho
        obtain ⟨rfl, hw⟩ := ho
        split at hk
        next h4 => exact hs_slen hC ⟨by omega, by omega⟩ hdg hnx hw (fun v ws e => by rw [e] at hsz8; simp only [List.map_cons, List.sum_cons] at hsz8; omega) hnl hcs hk hat kk
        next => cases hk
      next =>
        simp only [Bool.and_eq_true, Bool.not_eq_true'] at ho
        obtain ⟨rfl, hw⟩ := ho
        split at hk
        next h4 => exact hs_chat hC ⟨by omega, by omega⟩ hdg hnx hw (fun v u ws e => by rw [e] at hsz8; simp only [List.map_cons, List.sum_cons] at hsz8; omega) hnl hcs hk hat kk
        next => cases hk
      next => cases hk
end SQ
section SR
variable {p : Program} {l : Launch} {e : Env} {R : Room} {s : State} {m : MethodId} {args : Array Value} {below : List Frame} {meth : Method} {c : Code} {H : Heap} {locs : List Loc} {cells slots : Nat} {Q : State → Prop}
variable {D : va_G} {cA : Nat → ClassId} {base b0 : Nat} {adK adV : Nat → Nat} {sL : Nat} {xs : Nat → Int32}
variable {L st L' st' : List hc_V} {h h' : hc_H} {ls : Array Slot} {stk : List Value} {nL pc pc' nx i : Nat}
theorem hs_lneg {mi : hc_M} {d : Nat} (hC : hc_C D cA base b0 adK adV sL xs mi p s m args meth c R d) (hdg : decode mi.2.1 pc = .ok (.lneg, 1)) (hnx : nx = pc + 1) (hk : hc_ul (fun x => -x) nx L st h = some (.inr (.inl (pc', L', st', h')))) (hat : hc_at D cA base b0 adK sL xs s nL L st h ls stk H locs cells) (kk : ∀ (ls : Array Slot) (stk : List Value) (H : Heap) (locs : List Loc), hc_at D cA base b0 adK sL xs s nL L' st' h' ls stk H locs (cells + (h'.1 - h.1)) → W p l e R s m args below meth c H locs (cells + (h'.1 - h.1)) (slots + (h'.2.1 - h.2.1)) Q (F0 m pc' ls stk)) : W p l e R s m args below meth c H locs cells slots Q (F0 m pc ls stk) := by
  subst hnx
  have hx := hC.1
  have hb := hC.2.1
  unfold hc_ul hc_q at hk
  split at hk
  next x st1 =>
    obtain ⟨w1, ws, rfl, ⟨z, rfl, hz⟩, hsr⟩ := hc_sr_cons hat.2.1
    split at hk
    next hr =>
      refine hs_to (st1 := xL (-x) :: st1) (stk1 := .long (-z) :: ws) ⟨hc_mkL ?_, hsr⟩ hk (fun k2 => lv_lneg hx hb hdg k2) hat kk
      rw [Int64.toInt_neg, hz]
      exact hc_bm64 hr.1 hr.2
    next => cases hk
  next => cases hk
theorem hs_lor {mi : hc_M} {d : Nat} (hC : hc_C D cA base b0 adK adV sL xs mi p s m args meth c R d) (hdg : decode mi.2.1 pc = .ok (.lor, 1)) (hnx : nx = pc + 1) (hk : hc_llor nx L st h = some (.inr (.inl (pc', L', st', h')))) (hat : hc_at D cA base b0 adK sL xs s nL L st h ls stk H locs cells) (kk : ∀ (ls : Array Slot) (stk : List Value) (H : Heap) (locs : List Loc), hc_at D cA base b0 adK sL xs s nL L' st' h' ls stk H locs (cells + (h'.1 - h.1)) → W p l e R s m args below meth c H locs (cells + (h'.1 - h.1)) (slots + (h'.2.1 - h.2.1)) Q (F0 m pc' ls stk)) : W p l e R s m args below meth c H locs cells slots Q (F0 m pc ls stk) := by
  subst hnx
  have hx := hC.1
  have hb := hC.2.1
  unfold hc_llor at hk
  split at hk
  next y x st1 =>
    obtain ⟨w1, ws9, rfl, ⟨zy, rfl, hy⟩, hsr9⟩ := hc_sr_cons hat.2.1
    obtain ⟨w1, ws, rfl, ⟨zx, rfl, hz⟩, hsr⟩ := hc_sr_cons hsr9
    exact hs_to (st1 := xL (hc_lor x y) :: st1) (stk1 := .long (zx ||| zy) :: ws) ⟨hc_mkL (by rw [← hz, ← hy, hc_lor, hc_ot64, hc_ot64]), hsr⟩ hk (fun k2 => lv_lor hx hb hdg k2) hat kk
  next => cases hk
theorem hs_lshl {mi : hc_M} {d : Nat} (hC : hc_C D cA base b0 adK adV sL xs mi p s m args meth c R d) (hdg : decode mi.2.1 pc = .ok (.lshl, 1)) (hnx : nx = pc + 1) (hk : hc_llsh nx L st h = some (.inr (.inl (pc', L', st', h')))) (hat : hc_at D cA base b0 adK sL xs s nL L st h ls stk H locs cells) (kk : ∀ (ls : Array Slot) (stk : List Value) (H : Heap) (locs : List Loc), hc_at D cA base b0 adK sL xs s nL L' st' h' ls stk H locs (cells + (h'.1 - h.1)) → W p l e R s m args below meth c H locs (cells + (h'.1 - h.1)) (slots + (h'.2.1 - h.2.1)) Q (F0 m pc' ls stk)) : W p l e R s m args below meth c H locs cells slots Q (F0 m pc ls stk) := by
  subst hnx
  have hx := hC.1
  have hb := hC.2.1
  unfold hc_llsh at hk
  split at hk
  next y x st1 =>
    obtain ⟨w1, ws9, rfl, ⟨zy, rfl, hy⟩, hsr9⟩ := hc_sr_cons hat.2.1
    obtain ⟨w1, ws, rfl, ⟨zx, rfl, hz⟩, hsr⟩ := hc_sr_cons hsr9
    exact hs_to (st1 := xL (hc_lshl x y) :: st1) (stk1 := .long (zx <<< (zy.toInt64 &&& 63)) :: ws) ⟨hc_mkL (by rw [← hz, ← hy, hc_lshl, hc_ot64, hc_ot]), hsr⟩ hk (fun k2 => lv_lshl hx hb hdg rfl k2) hat kk
  next => cases hk
theorem hs_lcmp {mi : hc_M} {d : Nat} (hC : hc_C D cA base b0 adK adV sL xs mi p s m args meth c R d) (hdg : decode mi.2.1 pc = .ok (.lcmp, 1)) (hnx : nx = pc + 1) (hk : hc_lcmp nx L st h = some (.inr (.inl (pc', L', st', h')))) (hat : hc_at D cA base b0 adK sL xs s nL L st h ls stk H locs cells) (kk : ∀ (ls : Array Slot) (stk : List Value) (H : Heap) (locs : List Loc), hc_at D cA base b0 adK sL xs s nL L' st' h' ls stk H locs (cells + (h'.1 - h.1)) → W p l e R s m args below meth c H locs (cells + (h'.1 - h.1)) (slots + (h'.2.1 - h.2.1)) Q (F0 m pc' ls stk)) : W p l e R s m args below meth c H locs cells slots Q (F0 m pc ls stk) := by
  subst hnx
  have hx := hC.1
  have hb := hC.2.1
  unfold hc_lcmp at hk
  split at hk
  next y x st1 =>
    obtain ⟨w1, ws9, rfl, ⟨zy, rfl, hy⟩, hsr9⟩ := hc_sr_cons hat.2.1
    obtain ⟨w1, ws, rfl, ⟨zx, rfl, hz⟩, hsr⟩ := hc_sr_cons hsr9
    exact hs_to (st1 := xI (hc_cmp3 x y) :: st1) (stk1 := .int (lg_cmp zx zy) :: ws) ⟨hc_mkI (by rw [hc_cmpT, hz, hy]), hsr⟩ hk (fun k2 => W.lcmp hx hb hdg k2) hat kk
  next => cases hk
theorem hs_i2l {mi : hc_M} {d : Nat} (hC : hc_C D cA base b0 adK adV sL xs mi p s m args meth c R d) (hdg : decode mi.2.1 pc = .ok (.i2l, 1)) (hnx : nx = pc + 1) (hk : hc_i2l nx L st h = some (.inr (.inl (pc', L', st', h')))) (hat : hc_at D cA base b0 adK sL xs s nL L st h ls stk H locs cells) (kk : ∀ (ls : Array Slot) (stk : List Value) (H : Heap) (locs : List Loc), hc_at D cA base b0 adK sL xs s nL L' st' h' ls stk H locs (cells + (h'.1 - h.1)) → W p l e R s m args below meth c H locs (cells + (h'.1 - h.1)) (slots + (h'.2.1 - h.2.1)) Q (F0 m pc' ls stk)) : W p l e R s m args below meth c H locs cells slots Q (F0 m pc ls stk) := by
  subst hnx
  have hx := hC.1
  have hb := hC.2.1
  unfold hc_i2l at hk
  split at hk
  next x st1 =>
    obtain ⟨w1, ws, rfl, ⟨z, rfl, hz⟩, hsr⟩ := hc_sr_cons hat.2.1
    exact hs_to (st1 := xL x :: st1) (stk1 := .long z.toInt64 :: ws) ⟨hc_mkL (by rw [Int32.toInt_toInt64, hz]), hsr⟩ hk (fun k2 => lv_i2l hx hb hdg rfl k2) hat kk
  next => cases hk
theorem hs_l2i {mi : hc_M} {d : Nat} (hC : hc_C D cA base b0 adK adV sL xs mi p s m args meth c R d) (hdg : decode mi.2.1 pc = .ok (.l2i, 1)) (hnx : nx = pc + 1) (hk : hc_kl2i nx L st h = some (.inr (.inl (pc', L', st', h')))) (hat : hc_at D cA base b0 adK sL xs s nL L st h ls stk H locs cells) (kk : ∀ (ls : Array Slot) (stk : List Value) (H : Heap) (locs : List Loc), hc_at D cA base b0 adK sL xs s nL L' st' h' ls stk H locs (cells + (h'.1 - h.1)) → W p l e R s m args below meth c H locs (cells + (h'.1 - h.1)) (slots + (h'.2.1 - h.2.1)) Q (F0 m pc' ls stk)) : W p l e R s m args below meth c H locs cells slots Q (F0 m pc ls stk) := by
  subst hnx
  have hx := hC.1
  have hb := hC.2.1
  unfold hc_kl2i at hk
  split at hk
  next x st1 =>
    obtain ⟨w1, ws, rfl, ⟨z, rfl, hz⟩, hsr⟩ := hc_sr_cons hat.2.1
    exact hs_to (st1 := xI (hc_l2i x) :: st1) (stk1 := .int z.toInt32 :: ws) ⟨hc_mkI (by rw [← hz, hc_l2i, hc_ot64]), hsr⟩ hk (fun k2 => lv_l2i hx hb hdg rfl k2) hat kk
  next => cases hk
theorem hs_dup {mi : hc_M} {d : Nat} (hC : hc_C D cA base b0 adK adV sL xs mi p s m args meth c R d) (hdg : decode mi.2.1 pc = .ok (.dup, 1)) (hnx : nx = pc + 1) (hk : hc_dup nx L st h = some (.inr (.inl (pc', L', st', h')))) (hat : hc_at D cA base b0 adK sL xs s nL L st h ls stk H locs cells) (kk : ∀ (ls : Array Slot) (stk : List Value) (H : Heap) (locs : List Loc), hc_at D cA base b0 adK sL xs s nL L' st' h' ls stk H locs (cells + (h'.1 - h.1)) → W p l e R s m args below meth c H locs (cells + (h'.1 - h.1)) (slots + (h'.2.1 - h.2.1)) Q (F0 m pc' ls stk)) : W p l e R s m args below meth c H locs cells slots Q (F0 m pc ls stk) := by
  subst hnx
  have hx := hC.1
  have hb := hC.2.1
  unfold hc_dup at hk
  split at hk
  next x st1 =>
    obtain ⟨w1, ws, rfl, ⟨z, rfl, hz⟩, hsr⟩ := hc_sr_cons hat.2.1
    exact hs_to (st1 := xI x :: xI x :: st1) (stk1 := .int z :: .int z :: ws) ⟨hc_mkI hz, hc_mkI hz, hsr⟩ hk (fun k2 => lv_dup hx hb hdg rfl k2) hat kk
  next r st1 =>
    obtain ⟨w1, ws, rfl, hw1, hsr⟩ := hc_sr_cons hat.2.1
    exact hs_to (st1 := xQ r :: xQ r :: st1) (stk1 := w1 :: w1 :: ws) ⟨hw1, hw1, hsr⟩ hk (fun k2 => lv_dup hx hb hdg (hc_vr_cat hw1 (fun x => by simp)) k2) hat kk
  next => cases hk
theorem hs_dup2 {mi : hc_M} {d : Nat} (hC : hc_C D cA base b0 adK adV sL xs mi p s m args meth c R d) (hdg : decode mi.2.1 pc = .ok (.dup2, 1)) (hnx : nx = pc + 1) (hk : hc_dup2 nx L st h = some (.inr (.inl (pc', L', st', h')))) (hat : hc_at D cA base b0 adK sL xs s nL L st h ls stk H locs cells) (kk : ∀ (ls : Array Slot) (stk : List Value) (H : Heap) (locs : List Loc), hc_at D cA base b0 adK sL xs s nL L' st' h' ls stk H locs (cells + (h'.1 - h.1)) → W p l e R s m args below meth c H locs (cells + (h'.1 - h.1)) (slots + (h'.2.1 - h.2.1)) Q (F0 m pc' ls stk)) : W p l e R s m args below meth c H locs cells slots Q (F0 m pc ls stk) := by
  subst hnx
  have hx := hC.1
  have hb := hC.2.1
  unfold hc_dup2 at hk
  split at hk
  next x r st1 =>
    obtain ⟨w1, ws9, rfl, hw1, hsr9⟩ := hc_sr_cons hat.2.1
    obtain ⟨w2, ws, rfl, hw2, hsr⟩ := hc_sr_cons hsr9
    exact hs_to (st1 := xI x :: xQ r :: xI x :: xQ r :: st1) (stk1 := w1 :: w2 :: w1 :: w2 :: ws) ⟨hw1, hw2, hw1, hw2, hsr⟩ hk (fun k2 => lv_dup2_11 hx hb hdg (hc_vr_cat hw1 (fun x => by simp)) (hc_vr_cat hw2 (fun x => by simp)) k2) hat kk
  next => cases hk
theorem hs_ifnull {mi : hc_M} {d a : Nat} {off : Int} (hC : hc_C D cA base b0 adK adV sL xs mi p s m args meth c R d) (hdg : decode mi.2.1 pc = .ok (.ifnull off, 3)) (hnx : nx = pc + 3) (ht : (pc : Int) + off = (a : Int)) (hk : hc_nul a nx L st h = some (.inr (.inl (pc', L', st', h')))) (hat : hc_at D cA base b0 adK sL xs s nL L st h ls stk H locs cells) (kk : ∀ (ls : Array Slot) (stk : List Value) (H : Heap) (locs : List Loc), hc_at D cA base b0 adK sL xs s nL L' st' h' ls stk H locs (cells + (h'.1 - h.1)) → W p l e R s m args below meth c H locs (cells + (h'.1 - h.1)) (slots + (h'.2.1 - h.2.1)) Q (F0 m pc' ls stk)) : W p l e R s m args below meth c H locs cells slots Q (F0 m pc ls stk) := by
  subst hnx
  have hx := hC.1
  have hb := hC.2.1
  unfold hc_nul at hk
  split at hk
  next st1 =>
    obtain ⟨w1, ws, rfl, hw1, hsr⟩ := hc_sr_cons hat.2.1
    cases hw1
    exact hs_to (nx := a) hsr hk (fun k2 => lv_ifnullN hx hb hdg ht k2) hat kk
  next r st1 =>
    obtain ⟨w1, ws, rfl, hw1, hsr⟩ := hc_sr_cons hat.2.1
    cases hw1
    exact hs_to (nx := pc + 3) hsr hk (fun k2 => lv_ifnull hx hb hdg k2) hat kk
  next => cases hk
theorem hs_ifnonnull {mi : hc_M} {d a : Nat} {off : Int} (hC : hc_C D cA base b0 adK adV sL xs mi p s m args meth c R d) (hdg : decode mi.2.1 pc = .ok (.ifnonnull off, 3)) (hnx : nx = pc + 3) (ht : (pc : Int) + off = (a : Int)) (hk : hc_nul nx a L st h = some (.inr (.inl (pc', L', st', h')))) (hat : hc_at D cA base b0 adK sL xs s nL L st h ls stk H locs cells) (kk : ∀ (ls : Array Slot) (stk : List Value) (H : Heap) (locs : List Loc), hc_at D cA base b0 adK sL xs s nL L' st' h' ls stk H locs (cells + (h'.1 - h.1)) → W p l e R s m args below meth c H locs (cells + (h'.1 - h.1)) (slots + (h'.2.1 - h.2.1)) Q (F0 m pc' ls stk)) : W p l e R s m args below meth c H locs cells slots Q (F0 m pc ls stk) := by
  subst hnx
  have hx := hC.1
  have hb := hC.2.1
  unfold hc_nul at hk
  split at hk
  next st1 =>
    obtain ⟨w1, ws, rfl, hw1, hsr⟩ := hc_sr_cons hat.2.1
    cases hw1
    exact hs_to (nx := pc + 3) hsr hk (fun k2 => lv_ifnonnullN hx hb hdg k2) hat kk
  next r st1 =>
    obtain ⟨w1, ws, rfl, hw1, hsr⟩ := hc_sr_cons hat.2.1
    cases hw1
    exact hs_to (nx := a) hsr hk (fun k2 => lv_ifnonnull hx hb hdg ht k2) hat kk
  next => cases hk
theorem hc_ldS {mi : hc_M} {a j : Nat} (X : hc_X D cA base b0 adK adV sL xs s) (ho : (match hc_gt hc_S (a - 1) with
        | some (o, i, tx) => Nat.ble 1 a && decide (o = mi.1.cls) && Nat.beq i j
        | none => false) = true) : ∃ tx, a - 1 < 21 ∧ vk_R mi.1.cls j tx (adK (a - 1)) s ∧ (hc_ad base b0 adK) a = adK (a - 1) := by
  split at ho
  next o i tx hS =>
    simp only [Bool.and_eq_true, decide_eq_true_eq] at ho
    obtain ⟨⟨h1, h2⟩, h3⟩ := ho
    have h3 := Nat.eq_of_beq_eq_true h3
    subst h3
    have h1 := Nat.le_of_ble_eq_true h1
    have hlt : a - 1 < 21 := hc_gt_lt hc_S _ _ hS
    have hR := X.2.2.1.2 _ _ _ _ hS
    rw [h2] at hR
    refine ⟨tx, hlt, hR, ?_⟩
    unfold hc_ad
    rw [if_pos (by omega), if_neg (by omega)]
  next => cases ho
theorem hc_step {mi : hc_M} {d : Nat} {I : hc_I} (hC : hc_C D cA base b0 adK adV sL xs mi p s m args meth c R d) (hok : hc_ok1 mi.1.cls mi.2.1 mi.2.2.2.2.1 pc I = true) (hnl : mi.2.2.1 = nL) (hk : hc_kind d mi.2.2.2.1 pc I L st h = some (.inr (.inl (pc', L', st', h')))) (hrm : cells + (h'.1 - h.1) ≤ R.cells ∧ slots + (h'.2.1 - h.2.1) ≤ R.slots) (hat : hc_at D cA base b0 adK sL xs s nL L st h ls stk H locs cells) (kk : ∀ (ls : Array Slot) (stk : List Value) (H : Heap) (locs : List Loc), hc_at D cA base b0 adK sL xs s nL L' st' h' ls stk H locs (cells + (h'.1 - h.1)) → W p l e R s m args below meth c H locs (cells + (h'.1 - h.1)) (slots + (h'.2.1 - h.2.1)) Q (F0 m pc' ls stk)) : W p l e R s m args below meth c H locs cells slots Q (F0 m pc ls stk) := by
  obtain ⟨nx, ins, a, b, w, v⟩ := I
  have hx := hC.1
  have hb := hC.2.1
  have hown := hC.2.2.2.1
  have hts := hC.2.2.2.2.1
  cases ins with
  | aconst_null =>
    obtain ⟨hdg, rfl, ho⟩ := hc_un (i := .aconst_null) (n := 1) (nx := nx) hok
    exact hs_push hc_mkN hk (fun k2 => lv_null hx hb hdg k2) hat kk
  | aload i =>
    obtain ⟨hdg, rfl, ho⟩ := hc_un (i := .aload i) (n := 2) (nx := nx) hok
    exact hs_lda hk (fun x hl k2 => lv_aload hx hb hdg hl k2) (fun hl k2 => lv_aloadN hx hb hdg hl k2) hat kk
  | aload_n i =>
    obtain ⟨hdg, rfl, ho⟩ := hc_un (i := .aload_n i) (n := 1) (nx := nx) hok
    exact hs_lda hk (fun x hl k2 => lv_aload_n hx hb hdg rfl hl k2) (fun hl k2 => lv_aload_nN hx hb hdg rfl hl k2) hat kk
  | iload i =>
    obtain ⟨hdg, rfl, ho⟩ := hc_un (i := .iload i) (n := 2) (nx := nx) hok
    exact hs_ldi hk (fun x hl k2 => lv_iload hx hb hdg hl k2) hat kk
  | iload_n i =>
    obtain ⟨hdg, rfl, ho⟩ := hc_un (i := .iload_n i) (n := 1) (nx := nx) hok
    exact hs_ldi hk (fun x hl k2 => lv_iload_n hx hb hdg rfl hl k2) hat kk
  | lload i =>
    obtain ⟨hdg, rfl, ho⟩ := hc_un (i := .lload i) (n := 2) (nx := nx) hok
    exact hs_ldl hk (fun x hl k2 => lv_lload hx hb hdg hl k2) hat kk
  | lload_n i =>
    obtain ⟨hdg, rfl, ho⟩ := hc_un (i := .lload_n i) (n := 1) (nx := nx) hok
    exact hs_ldl hk (fun x hl k2 => lv_lload_n hx hb hdg rfl hl k2) hat kk
  | astore i =>
    obtain ⟨hdg, rfl, ho⟩ := hc_un (i := .astore i) (n := 2) (nx := nx) hok
    exact hs_sta hk (fun x r e hi hl k2 => by subst e; exact lv_astore hx hb hdg hl hi rfl k2) (fun r e hi hl k2 => by subst e; exact lv_astoreN hx hb hdg hl hi rfl k2) hat kk
  | astore_n i =>
    obtain ⟨hdg, rfl, ho⟩ := hc_un (i := .astore_n i) (n := 1) (nx := nx) hok
    exact hs_sta hk (fun x r e hi hl k2 => by subst e; exact lv_astore_n hx hb hdg rfl hl hi rfl k2) (fun r e hi hl k2 => by subst e; exact lv_astore_nN hx hb hdg rfl hl hi rfl k2) hat kk
  | istore i =>
    obtain ⟨hdg, rfl, ho⟩ := hc_un (i := .istore i) (n := 2) (nx := nx) hok
    exact hs_sti hk (fun x r e hi hl k2 => by subst e; exact lv_istore hx hb hdg hl hi rfl k2) hat kk
  | istore_n i =>
    obtain ⟨hdg, rfl, ho⟩ := hc_un (i := .istore_n i) (n := 1) (nx := nx) hok
    exact hs_sti hk (fun x r e hi hl k2 => by subst e; exact lv_istore_n hx hb hdg rfl hl hi rfl k2) hat kk
  | lstore i =>
    obtain ⟨hdg, rfl, ho⟩ := hc_un (i := .lstore i) (n := 2) (nx := nx) hok
    exact hs_stl hk (fun x r e hi hl k2 => by subst e; exact lv_lstore hx hb hdg hl hi rfl k2) hat kk
  | lstore_n i =>
    obtain ⟨hdg, rfl, ho⟩ := hc_un (i := .lstore_n i) (n := 1) (nx := nx) hok
    exact hs_stl hk (fun x r e hi hl k2 => by subst e; exact lv_lstore_n hx hb hdg rfl hl hi rfl k2) hat kk
  | iinc i n =>
    obtain ⟨hdg, rfl, ho⟩ := hc_un (i := .iinc i n) (n := 3) (nx := nx) hok
    obtain ⟨r1, r2⟩ := hc_rg ho
    exact hs_inc r1 r2 hk (fun x e hi hl k2 => lv_iinc (k := 0) hx hb hdg hl rfl rfl hi (by simp) k2) hat kk
  | iconst n =>
    obtain ⟨hdg, rfl, ho⟩ := hc_un (i := .iconst n) (n := 1) (nx := nx) hok
    obtain ⟨r1, r2⟩ := hc_rg ho
    exact hs_push (hc_mkI (hc_oi (by omega) (by omega))) hk (fun k2 => lv_iconst hx hb hdg rfl k2) hat kk
  | bipush n =>
    obtain ⟨hdg, rfl, ho⟩ := hc_un (i := .bipush n) (n := 2) (nx := nx) hok
    obtain ⟨r1, r2⟩ := hc_rg ho
    exact hs_push (hc_mkI (hc_i8 r1 r2)) hk (fun k2 => lv_bipush hx hb hdg rfl k2) hat kk
  | sipush n =>
    obtain ⟨hdg, rfl, ho⟩ := hc_un (i := .sipush n) (n := 3) (nx := nx) hok
    obtain ⟨r1, r2⟩ := hc_rg ho
    exact hs_push (hc_mkI (hc_i16 r1 r2)) hk (fun k2 => lv_sipush hx hb hdg rfl k2) hat kk
  | lconst n =>
    obtain ⟨hdg, rfl, ho⟩ := hc_un (i := .lconst n) (n := 1) (nx := nx) hok
    exact hs_push (hc_mkL (by have := n.isLt; match n with | 0 => rfl | 1 => rfl)) hk (fun k2 => lv_lconst hx hb hdg rfl k2) hat kk
  | ldc j =>
    obtain ⟨hdg, hnx, ho⟩ := hc_un (i := .ldc j) (n := 2) (nx := nx) hok
    subst hnx
    cases b with
    | zero =>
      have ho : (Nat.blt a 2147483648 && hc_w w (.constant mi.1.cls j (Int32.ofNat a))) = true := ho
      simp only [Bool.and_eq_true, Nat.blt_eq] at ho
      exact hs_push (nx := pc + 2) (v := xI (a : Int)) (hc_mkI (hc_nT (by omega))) hk (fun k2 => lv_ldc hx hb hown (hts _ (hc_wmem ho.2).1 (hc_wmem ho.2).2) hdg k2) hat kk
    | succ b =>
      obtain ⟨tx, hlt, hR, ead⟩ := hc_ldS (X := hC.2.2.2.2.2.1) ho
      exact hs_push (nx := pc + 2) (v := xR a) (w := .ref (adK (a - 1))) (by rw [← ead]; exact hc_mkR) hk (fun k2 => va_ldcS hx hb hown hR hdg k2) hat kk
  | ldc_w j =>
    obtain ⟨hdg, rfl, ho⟩ := hc_un (i := .ldc_w j) (n := 3) (nx := nx) hok
    have ho : (Nat.blt a 2147483648 && hc_w w (.constant mi.1.cls j (Int32.ofNat a))) = true := ho
    simp only [Bool.and_eq_true, Nat.blt_eq] at ho
    exact hs_push (hc_mkI (hc_nT (by omega))) hk (fun k2 => lv_ldcw hx hb hown (hts _ (hc_wmem ho.2).1 (hc_wmem ho.2).2) hdg k2) hat kk
  | ldc2_w j =>
    obtain ⟨hdg, hnx, ho⟩ := hc_un (i := .ldc2_w j) (n := 3) (nx := nx) hok
    subst hnx
    cases b with
    | zero =>
      have ho : (Nat.blt a 2147483648 && hc_w w (.constantLong mi.1.cls j (Int64.ofNat a))) = true := ho
      simp only [Bool.and_eq_true, Nat.blt_eq] at ho
      exact hs_push (nx := pc + 3) (v := xL (a : Int)) (hc_mkL (lN_toInt (by omega))) hk (fun k2 => lv_ldc2 hx hb hown (hts _ (hc_wmem ho.2).1 (hc_wmem ho.2).2) hdg k2) hat kk
    | succ b =>
      have ho : (Nat.blt a 2147483648 && hc_w w (.constantLong mi.1.cls j (-(Int64.ofNat a)))) = true := ho
      simp only [Bool.and_eq_true, Nat.blt_eq] at ho
      have hT : (Int64.ofNat a).toInt = (a : Int) := lN_toInt (by omega)
      refine hs_push (nx := pc + 3) (v := xL (-(a : Int))) (w := .long (-(Int64.ofNat a))) (hc_mkL ?_) hk (fun k2 => lv_ldc2 hx hb hown (hts _ (hc_wmem ho.2).1 (hc_wmem ho.2).2) hdg k2) hat kk
      rw [Int64.toInt_neg, hT]
      exact hc_bm64 (by omega) (by omega)
  | iadd =>
    obtain ⟨hdg, rfl, ho⟩ := hc_un (i := .iadd) (n := 1) (nx := nx) hok
    exact hs_b2 (g := fun x y => x + y) (fun x y h1 h2 => by rw [Int32.toInt_add]; exact hc_bm h1 h2) hk (fun x y r k2 => lv_iadd hx hb hdg k2) hat kk
  | isub =>
    obtain ⟨hdg, rfl, ho⟩ := hc_un (i := .isub) (n := 1) (nx := nx) hok
    exact hs_b2 (g := fun x y => x - y) (fun x y h1 h2 => by rw [Int32.toInt_sub]; exact hc_bm h1 h2) hk (fun x y r k2 => lv_isub hx hb hdg k2) hat kk
  | imul =>
    obtain ⟨hdg, rfl, ho⟩ := hc_un (i := .imul) (n := 1) (nx := nx) hok
    exact hs_b2 (g := fun x y => x * y) (fun x y h1 h2 => by rw [Int32.toInt_mul]; exact hc_bm h1 h2) hk (fun x y r k2 => lv_imul hx hb hdg k2) hat kk
  | idiv =>
    obtain ⟨hdg, hnx, ho⟩ := hc_un (i := .idiv) (n := 1) (nx := nx) hok
    exact hs_dv hC hdg hnx hk hat kk
  | irem =>
    obtain ⟨hdg, hnx, ho⟩ := hc_un (i := .irem) (n := 1) (nx := nx) hok
    exact hs_rm hC hdg hnx hk hat kk
  | ineg =>
    obtain ⟨hdg, rfl, ho⟩ := hc_un (i := .ineg) (n := 1) (nx := nx) hok
    exact hs_u1 (g := fun x => -x) (fun x h1 h2 => by rw [Int32.toInt_neg]; exact hc_bm h1 h2) hk (fun x r e k2 => lv_ineg hx hb hdg k2) hat kk
  | iand =>
    obtain ⟨hdg, rfl, ho⟩ := hc_un (i := .iand) (n := 1) (nx := nx) hok
    exact hs_b3 (g := fun x y => x &&& y) (fun x y => by rw [hc_and, hc_ot, hc_ot]) hk (fun x y r e k2 => lv_iand hx hb hdg k2) hat kk
  | ior =>
    obtain ⟨hdg, rfl, ho⟩ := hc_un (i := .ior) (n := 1) (nx := nx) hok
    exact hs_b3 (g := fun x y => x ||| y) (fun x y => by rw [hc_or, hc_ot, hc_ot]) hk (fun x y r e k2 => lv_ior hx hb hdg k2) hat kk
  | ixor =>
    obtain ⟨hdg, rfl, ho⟩ := hc_un (i := .ixor) (n := 1) (nx := nx) hok
    exact hs_b3 (g := fun x y => x ^^^ y) (fun x y => by rw [hc_xor, hc_ot, hc_ot]) hk (fun x y r e k2 => lv_ixor hx hb hdg k2) hat kk
  | ishl =>
    obtain ⟨hdg, rfl, ho⟩ := hc_un (i := .ishl) (n := 1) (nx := nx) hok
    exact hs_b3 (g := fun x y => x <<< (y &&& 31)) (fun x y => by rw [hc_shl, hc_ot, hc_ot]) hk (fun x y r e k2 => lv_ishl hx hb hdg k2) hat kk
  | ishr =>
    obtain ⟨hdg, rfl, ho⟩ := hc_un (i := .ishr) (n := 1) (nx := nx) hok
    exact hs_b3 (g := fun x y => x >>> (y &&& 31)) (fun x y => by rw [hc_shr, hc_ot, hc_ot]) hk (fun x y r e k2 => lv_ishr hx hb hdg k2) hat kk
  | iushr =>
    obtain ⟨hdg, rfl, ho⟩ := hc_un (i := .iushr) (n := 1) (nx := nx) hok
    exact hs_b3 (g := fun x y => (x.toUInt32 >>> (y.toUInt32 &&& Int32.toUInt32 31)).toInt32) (fun x y => by rw [hc_ushr, hc_ot, hc_ot]) hk (fun x y r e k2 => lv_iushr hx hb hdg rfl k2) hat kk
  | ladd =>
    obtain ⟨hdg, rfl, ho⟩ := hc_un (i := .ladd) (n := 1) (nx := nx) hok
    exact hs_l2 (g := fun x y => x + y) (fun x y h1 h2 => by rw [Int64.toInt_add]; exact hc_bm64 h1 h2) hk (fun x y r k2 => lv_ladd hx hb hdg k2) hat kk
  | lsub =>
    obtain ⟨hdg, rfl, ho⟩ := hc_un (i := .lsub) (n := 1) (nx := nx) hok
    exact hs_l2 (g := fun x y => x - y) (fun x y h1 h2 => by rw [Int64.toInt_sub]; exact hc_bm64 h1 h2) hk (fun x y r k2 => lv_lsub hx hb hdg k2) hat kk
  | lmul =>
    obtain ⟨hdg, rfl, ho⟩ := hc_un (i := .lmul) (n := 1) (nx := nx) hok
    exact hs_l2 (g := fun x y => x * y) (fun x y h1 h2 => by rw [Int64.toInt_mul]; exact hc_bm64 h1 h2) hk (fun x y r k2 => lv_lmul hx hb hdg k2) hat kk
  | ldiv =>
    obtain ⟨hdg, hnx, ho⟩ := hc_un (i := .ldiv) (n := 1) (nx := nx) hok
    exact hs_ldv hC hdg hnx hk hat kk
  | lrem =>
    obtain ⟨hdg, hnx, ho⟩ := hc_un (i := .lrem) (n := 1) (nx := nx) hok
    exact hs_lrm hC hdg hnx hk hat kk
  | lneg =>
    obtain ⟨hdg, hnx, ho⟩ := hc_un (i := .lneg) (n := 1) (nx := nx) hok
    exact hs_lneg hC hdg hnx hk hat kk
  | lor =>
    obtain ⟨hdg, hnx, ho⟩ := hc_un (i := .lor) (n := 1) (nx := nx) hok
    exact hs_lor hC hdg hnx hk hat kk
  | lshl =>
    obtain ⟨hdg, hnx, ho⟩ := hc_un (i := .lshl) (n := 1) (nx := nx) hok
    exact hs_lshl hC hdg hnx hk hat kk
  | lcmp =>
    obtain ⟨hdg, hnx, ho⟩ := hc_un (i := .lcmp) (n := 1) (nx := nx) hok
    exact hs_lcmp hC hdg hnx hk hat kk
  | i2l =>
    obtain ⟨hdg, hnx, ho⟩ := hc_un (i := .i2l) (n := 1) (nx := nx) hok
    exact hs_i2l hC hdg hnx hk hat kk
  | l2i =>
    obtain ⟨hdg, hnx, ho⟩ := hc_un (i := .l2i) (n := 1) (nx := nx) hok
    exact hs_l2i hC hdg hnx hk hat kk
  | dup =>
    obtain ⟨hdg, hnx, ho⟩ := hc_un (i := .dup) (n := 1) (nx := nx) hok
    exact hs_dup hC hdg hnx hk hat kk
  | dup2 =>
    obtain ⟨hdg, hnx, ho⟩ := hc_un (i := .dup2) (n := 1) (nx := nx) hok
    exact hs_dup2 hC hdg hnx hk hat kk
  | goto off =>
    obtain ⟨hdg, rfl, ho⟩ := hc_un (i := .goto off) (n := 3) (nx := nx) hok
    exact hs_to (nx := a) hat.2.1 hk (fun k2 => lv_goto hx hb hdg (by simpa [hc_oko] using ho) k2) hat kk
  | ifCond q off =>
    obtain ⟨hdg, hnx, ho⟩ := hc_un (i := .ifCond q off) (n := 3) (nx := nx) hok
    exact hs_if hC hdg hnx (by simpa [hc_oko] using ho) hk hat kk
  | if_icmp q off =>
    obtain ⟨hdg, hnx, ho⟩ := hc_un (i := .if_icmp q off) (n := 3) (nx := nx) hok
    exact hs_icmp hC hdg hnx (by simpa [hc_oko] using ho) hk hat kk
  | ifnull off =>
    obtain ⟨hdg, hnx, ho⟩ := hc_un (i := .ifnull off) (n := 3) (nx := nx) hok
    exact hs_ifnull hC hdg hnx (by simpa [hc_oko] using ho) hk hat kk
  | ifnonnull off =>
    obtain ⟨hdg, hnx, ho⟩ := hc_un (i := .ifnonnull off) (n := 3) (nx := nx) hok
    exact hs_ifnonnull hC hdg hnx (by simpa [hc_oko] using ho) hk hat kk
  | tableswitch df lo hi offs => exact hs_tsw hC (of_decide_eq_true hok) hk hat kk
  | lookupswitch df ps =>
    have hok : (decide (decode mi.2.1 pc = .ok (.lookupswitch df ps, nx - pc)) && (ps.toList.zip (ps.toList.drop 1)).all (fun (a, next) => a.1 < next.1)) = true := hok
    rw [Bool.and_eq_true] at hok
    exact hs_lsw hC (of_decide_eq_true hok.1) hok.2 hk hat kk
  | getfield idx =>
    obtain ⟨hdg, hnx, ho⟩ := hc_un (i := .getfield idx) (n := 3) (nx := nx) hok
    exact hs_getf hC hdg hnx ho hk hat kk
  | putfield idx =>
    obtain ⟨hdg, hnx, ho⟩ := hc_un (i := .putfield idx) (n := 3) (nx := nx) hok
    have ho : (hc_okf mi.1.cls idx a b w v && hc_okp mi.1.cls mi.2.2.2.2.1 a b v) = true := ho
    rw [Bool.and_eq_true] at ho
    exact hs_putf hC hdg hnx ho.1 ho.2 hk hat kk
  | new idx =>
    obtain ⟨hdg, hnx, ho⟩ := hc_un (i := .new idx) (n := 3) (nx := nx) hok
    exact hs_new (b := b) (v := v) hC hdg hnx ho hk hrm hat kk
  | newarray t =>
    obtain ⟨hdg, hnx, ho⟩ := hc_un (i := .newarray t) (n := 2) (nx := nx) hok
    have hk : hc_aty t nx L st h = some (.inr (.inl (pc', L', st', h'))) := hk
    unfold hc_aty at hk
    split at hk
    next => exact hs_newa (ty := .int) (t := 0) hC hdg hnx rfl hc_acls.1 (by decide) (fun N => (N, .inl (fun _ => 0))) (fun _ _ => rfl) (fun N => Or.inl ⟨rfl, _, rfl, fun _ => rfl⟩) rfl (fun C q => by cases q) hk hrm hat kk
    next => exact hs_newa (ty := .long) (t := 1) hC hdg hnx rfl hc_acls.2.1 (by decide) (fun N => (N, .inr (.inl (fun _ => 0)))) (fun _ _ => rfl) (fun N => Or.inr (Or.inl ⟨rfl, _, rfl, fun _ => rfl⟩)) rfl (fun C q => by cases q) hk hrm hat kk
    next => exact hs_newa (ty := .boolean) (t := 2) hC hdg hnx rfl hc_acls.2.2 (by decide) (fun N => (N, .inl (fun _ => 0))) (fun _ _ => rfl) (fun N => Or.inr (Or.inr ⟨rfl, _, rfl, fun _ => rfl⟩)) rfl (fun C q => by cases q) hk hrm hat kk
    next => cases hk
  | anewarray idx =>
    obtain ⟨hdg, hnx, ho⟩ := hc_un (i := .anewarray idx) (n := 3) (nx := nx) hok
    exact hs_newr hC hdg hnx ho hk hrm hat kk
  | arraylength =>
    obtain ⟨hdg, hnx, ho⟩ := hc_un (i := .arraylength) (n := 1) (nx := nx) hok
    exact hs_len hC hdg hnx hk hat kk
  | iaload =>
    obtain ⟨hdg, hnx, ho⟩ := hc_un (i := .iaload) (n := 1) (nx := nx) hok
    exact hs_ald hC hdg hnx hk hat kk
  | laload =>
    obtain ⟨hdg, hnx, ho⟩ := hc_un (i := .laload) (n := 1) (nx := nx) hok
    exact hs_lald hC hdg hnx hk hat kk
  | baload =>
    obtain ⟨hdg, hnx, ho⟩ := hc_un (i := .baload) (n := 1) (nx := nx) hok
    exact hs_bald hC hdg hnx hk hat kk
  | aaload =>
    obtain ⟨hdg, hnx, ho⟩ := hc_un (i := .aaload) (n := 1) (nx := nx) hok
    exact hs_aald hC hdg hnx hk hat kk
  | iastore =>
    obtain ⟨hdg, hnx, ho⟩ := hc_un (i := .iastore) (n := 1) (nx := nx) hok
    exact hs_ast hC hdg hnx hk hat kk
  | lastore =>
    obtain ⟨hdg, hnx, ho⟩ := hc_un (i := .lastore) (n := 1) (nx := nx) hok
    exact hs_last hC hdg hnx hk hat kk
  | bastore =>
    obtain ⟨hdg, hnx, ho⟩ := hc_un (i := .bastore) (n := 1) (nx := nx) hok
    exact hs_bast hC hdg hnx hk hat kk
  | aastore =>
    obtain ⟨hdg, hnx, ho⟩ := hc_un (i := .aastore) (n := 1) (nx := nx) hok
    exact hs_aast hC hdg hnx hk hat kk
  | checkcast idx =>
    obtain ⟨hdg, hnx, ho⟩ := hc_un (i := .checkcast idx) (n := 3) (nx := nx) hok
    exact hs_cast hC hdg hnx ho hk hat kk
  | invokestatic idx =>
    obtain ⟨hdg, hnx, ho⟩ := hc_un (i := .invokestatic idx) (n := 3) (nx := nx) hok
    have hk : (bif Nat.ble 1000 a then hc_prim d a nx L st h else hc_inv 0 a b 0 nx L st h) = some (.inr (.inl (pc', L', st', h'))) := hk
    have ho : (bif Nat.ble 1000 a then hc_okm mi.1.cls idx a w true else hc_okc mi.1.cls 0 idx a b w v) = true := ho
    cases h1 : Nat.ble 1000 a with
    | true => rw [h1] at hk ho; exact hs_prim (st0 := true) hC hdg hnx ho hnl hk hrm hat kk
    | false => rw [h1, cond_false] at hk; exact absurd hk hc_inv_ng
  | invokevirtual idx =>
    obtain ⟨hdg, hnx, ho⟩ := hc_un (i := .invokevirtual idx) (n := 3) (nx := nx) hok
    have hk : (bif Nat.ble 1000 a then hc_prim d a nx L st h else hc_inv 1 a b (v / 4) nx L st h) = some (.inr (.inl (pc', L', st', h'))) := hk
    have ho : (bif Nat.ble 1000 a then hc_okm mi.1.cls idx a w false else hc_okc mi.1.cls 1 idx a b w v) = true := ho
    cases h1 : Nat.ble 1000 a with
    | true => rw [h1] at hk ho; exact hs_prim (st0 := false) hC hdg hnx ho hnl hk hrm hat kk
    | false => rw [h1, cond_false] at hk; exact absurd hk hc_inv_ng
  | invokespecial idx =>
    obtain ⟨hdg, hnx, ho⟩ := hc_un (i := .invokespecial idx) (n := 3) (nx := nx) hok
    have hk : (bif Nat.ble 1000 a then hc_oinit d nx L st h else hc_inv 2 a b 0 nx L st h) = some (.inr (.inl (pc', L', st', h'))) := hk
    have ho : (bif Nat.ble 1000 a then hc_w w (.methodLink mi.1.cls idx Lib.objectInit) else hc_okc mi.1.cls 2 idx a b w v) = true := ho
    cases h1 : Nat.ble 1000 a with
    | true =>
      rw [h1] at hk ho
      have hk : hc_oinit d nx L st h = some (.inr (.inl (pc', L', st', h'))) := hk
      unfold hc_oinit at hk
      split at hk
      next => cases hk
      next => exact hs_oin hC hdg hnx ho (fun v1 ws e hz => by
          have h2 := hat.2.1
          rw [e] at h2
          cases hst : st with
          | nil => rw [hst] at h2; simp [hc_sr] at h2
          | cons v2 vs =>
            rw [hst] at h2 hz
            rw [hc_sz_eq h2.2]
            exact Nat.le_of_ble_eq_true hz) hnl hk hat kk
    | false => rw [h1, cond_false] at hk; exact absurd hk hc_inv_ng
  | ireturn => exact absurd hk hc_rti_ng
  | lreturn => exact absurd hk hc_rtl_ng
  | areturn => exact absurd hk hc_rta_ng
  | return_ => exact absurd hk hc_rtv_ng
  | _ => cases hk
end SR
