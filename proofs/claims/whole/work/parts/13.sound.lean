/-! calls, returns, and the whole: what the pure machine runs to its end, the machine runs to its end -/
def hc_hok (mi : hc_M) : Prop := hc_okh mi = true ∧ hc_all mi ∧ Cond.code mi.1 mi.2.1 mi.2.2.1 mi.2.2.2.1 ∈ hc_TB
theorem hc_tk_spec : ∀ {n : Nat} {st acc vs rest : List hc_V}, hc_tk n st acc = some (vs, rest) → ∃ pre, st = pre ++ rest ∧ vs = pre.reverse ++ acc ∧ pre.length = n
  | 0, st, acc, vs, rest, h => by
    simp only [hc_tk, Option.some.injEq, Prod.mk.injEq] at h
    exact ⟨[], by simp [h.2], by simp [h.1], rfl⟩
  | n + 1, [], acc, vs, rest, h => by simp [hc_tk] at h
  | n + 1, v :: st, acc, vs, rest, h => by
    obtain ⟨pre, h1, h2, h3⟩ := hc_tk_spec (n := n) h
    exact ⟨v :: pre, by rw [h1]; rfl, by rw [h2]; simp, by simp [h3]⟩
theorem hc_sr_app {ad : Nat → Nat} : ∀ {a b : List hc_V} {stk : List Value}, hc_sr ad (a ++ b) stk → ∃ s1 s2, stk = s1 ++ s2 ∧ hc_sr ad a s1 ∧ hc_sr ad b s2
  | [], b, stk, h => ⟨[], stk, rfl, trivial, h⟩
  | v :: a, b, [], h => by simp [hc_sr] at h
  | v :: a, b, w :: stk, h => by
    obtain ⟨s1, s2, h1, h2, h3⟩ := hc_sr_app (a := a) h.2
    exact ⟨w :: s1, s2, by rw [h1]; rfl, ⟨h.1, h2⟩, h3⟩
theorem hc_sr_cat {ad : Nat → Nat} : ∀ {a b : List hc_V} {s1 s2 : List Value}, hc_sr ad a s1 → hc_sr ad b s2 → hc_sr ad (a ++ b) (s1 ++ s2)
  | [], b, [], s2, _, h => h
  | [], b, w :: s1, s2, h, _ => by simp [hc_sr] at h
  | v :: a, b, [], s2, h, _ => by simp [hc_sr] at h
  | v :: a, b, w :: s1, s2, h1, h2 => ⟨h1.1, hc_sr_cat h1.2 h2⟩
theorem hc_sr_rev {ad : Nat → Nat} : ∀ {a : List hc_V} {s1 : List Value}, hc_sr ad a s1 → hc_sr ad a.reverse s1.reverse
  | [], [], _ => trivial
  | [], w :: s1, h => by simp [hc_sr] at h
  | v :: a, [], h => by simp [hc_sr] at h
  | v :: a, w :: s1, h => by
    rw [List.reverse_cons, List.reverse_cons]
    exact hc_sr_cat (hc_sr_rev h.2) ⟨h.1, trivial⟩
/-- the locals at an entry -/
theorem hc_fl_gt {ad : Nat → Nat} : ∀ {vs : List hc_V} {ws : List Value} (k : Nat), hc_sr ad vs ws → ∀ (i : Nat) (v : hc_V), hc_gt (hc_fl vs) i = some v → v ≠ none → ∃ w, hc_vr ad v w ∧ (k + i, w) ∈ lv_args k ws
  | [], [], k, _, i, v, h, _ => by simp [hc_fl, hc_gt] at h
  | [], w :: ws, k, hs, _, _, _, _ => by simp [hc_sr] at hs
  | v :: vs, [], k, hs, _, _, _, _ => by simp [hc_sr] at hs
  | u :: vs, w :: ws, k, hs, i, v, h, hn => by
    match u, hs, h with
    | some (.inr (.inl x)), hs, h =>
      obtain ⟨⟨z, hz, hzx⟩, hs2⟩ := hs
      subst hz
      match i, h with
      | 0, h =>
        simp only [hc_fl, hc_gt, Option.some.injEq] at h
        subst h
        exact ⟨.long z, ⟨z, rfl, hzx⟩, by simp [lv_args]⟩
      | 1, h =>
        simp only [hc_fl, hc_gt, Option.some.injEq] at h
        exact absurd h.symm hn
      | i + 2, h =>
        simp only [hc_fl, hc_gt] at h
        obtain ⟨w', h1, h2⟩ := hc_fl_gt (k + 2) hs2 i v h hn
        refine ⟨w', h1, ?_⟩
        simp only [lv_args, Value.category, if_true]
        rw [show k + (i + 2) = k + 2 + i by omega]
        exact List.mem_cons_of_mem _ h2
    | some (.inl x), hs, h =>
      obtain ⟨⟨z, hz, hzx⟩, hs2⟩ := hs
      subst hz
      match i, h with
      | 0, h =>
        simp only [hc_fl, hc_gt, Option.some.injEq] at h
        subst h
        exact ⟨.int z, ⟨z, rfl, hzx⟩, by simp [lv_args]⟩
      | i + 1, h =>
        simp only [hc_fl, hc_gt] at h
        obtain ⟨w', h1, h2⟩ := hc_fl_gt (k + 1) hs2 i v h hn
        refine ⟨w', h1, ?_⟩
        rw [show k + (i + 1) = k + 1 + i by omega]
        exact List.mem_cons_of_mem _ h2
    | some (.inr (.inr r)), hs, h =>
      obtain ⟨hz, hs2⟩ := hs
      have hz : w = va_rf (r.map ad) := hz
      have hcat : ¬ w.category = 2 := by
        subst hz
        cases r <;> simp [va_rf, Value.category]
      match i, h with
      | 0, h =>
        simp only [hc_fl, hc_gt, Option.some.injEq] at h
        subst h
        exact ⟨w, hz, by simp [lv_args]⟩
      | i + 1, h =>
        simp only [hc_fl, hc_gt] at h
        obtain ⟨w', h1, h2⟩ := hc_fl_gt (k + 1) hs2 i v h hn
        refine ⟨w', h1, ?_⟩
        rw [show k + (i + 1) = k + 1 + i by omega]
        simp only [lv_args, if_neg hcat]
        exact List.mem_cons_of_mem _ h2
    | none, hs, _ => exact absurd hs.1 (fun q => q)
theorem hc_fl_len {ad : Nat → Nat} : ∀ {vs : List hc_V} {ws : List Value}, hc_sr ad vs ws → (lg_sl ws).length = (hc_fl vs).length
  | [], [], _ => rfl
  | [], w :: ws, h => by simp [hc_sr] at h
  | v :: vs, [], h => by simp [hc_sr] at h
  | v :: vs, w :: ws, h => by
    have ih := hc_fl_len h.2
    have e : lg_sl (w :: ws) = (if w.category = 2 then [.val w, .second] else [.val w]) ++ lg_sl ws := rfl
    rw [e, List.length_append, ih]
    match v, h.1 with
    | some (.inl x), ⟨z, hz, _⟩ => subst hz; simp [Value.category, hc_fl]; omega
    | some (.inr (.inl x)), ⟨z, hz, _⟩ => subst hz; simp [Value.category, hc_fl]; omega
    | some (.inr (.inr none)), hz => cases hz; simp [va_rf, Value.category, hc_fl]; omega
    | some (.inr (.inr (some r))), hz => cases hz; simp [va_rf, Value.category, hc_fl]; omega
theorem hc_rep_len : ∀ n, (hc_rep n).length = n
  | 0 => rfl
  | n + 1 => by simp [hc_rep, hc_rep_len n]
theorem hc_rep_gt : ∀ (n i : Nat) (v : hc_V), hc_gt (hc_rep n) i = some v → v = none
  | 0, i, v, h => by simp [hc_rep, hc_gt] at h
  | n + 1, 0, v, h => by simp [hc_rep, hc_gt] at h; exact h.symm
  | n + 1, i + 1, v, h => by
    simp only [hc_rep, hc_gt] at h
    exact hc_rep_gt n i v h
theorem hc_ent_lr {ad : Nat → Nat} {vs : List hc_V} {ws : List Value} {n : Nat} (hs : hc_sr ad vs ws) (hl : (hc_fl vs).length ≤ n) : hc_lr ad (hc_ent n vs) ((lg_sl ws ++ List.replicate (n - (lg_sl ws).length) Slot.unset).toArray) n := by
  have hlen := hc_fl_len hs
  have he := lv_entry ws (n := n) (by rw [hlen]; exact hl)
  refine ⟨he.1, he.2.1, by simp only [hc_ent, List.length_append, hc_rep_len]; omega, fun i v h hn => ?_⟩
  have : hc_gt (hc_fl vs) i = some v := by
    rw [hc_gt_eq] at h ⊢
    unfold hc_ent at h
    by_cases hi : i < (hc_fl vs).length
    · rw [List.getElem?_append_left hi] at h
      exact h
    · rw [List.getElem?_append_right (by omega), ← hc_gt_eq] at h
      exact absurd (hc_rep_gt _ _ _ h) hn
  obtain ⟨w, h1, h2⟩ := hc_fl_gt 0 hs i v this hn
  rw [Nat.zero_add] at h2
  exact ⟨w, h1, he.2.2 _ h2⟩
set_option maxHeartbeats 4000000 in
theorem hc_kind_ret {d pc : Nat} {ty : Option FieldType} {I : hc_I} {L st v : List hc_V} {h h' : hc_H} (hk : hc_kind d ty pc I L st h = some (.inl (v, h'))) : h' = h := by
  obtain ⟨nx, ins, a, b, w, u⟩ := I
  cases ins <;> first
    | (cases hk; done)
    | (simp only [hc_kind, hc_lda, hc_ldi, hc_ldl, hc_sta, hc_sti, hc_stl, hc_inc, hc_b2, hc_b3, hc_dv, hc_rm, hc_l2, hc_ldv, hc_lrm, hc_llor, hc_llsh, hc_lcmp, hc_u1, hc_ul, hc_i2l, hc_kl2i, hc_dup, hc_dup2, hc_if, hc_icmp, hc_nul, hc_tsw, hc_lsw, hc_jmp, hc_getf, hc_putf, hc_newa, hc_newr, hc_len, hc_ald, hc_lald, hc_bald, hc_aald, hc_ast, hc_last, hc_bast, hc_aast, hc_copy, hc_clone, hc_cast, hc_slen, hc_chat, hc_oin, hc_new, hc_rti, hc_rtl, hc_rta, hc_rtv, hc_prim, hc_oinit, hc_ldk, hc_ld2, hc_aty, hc_p, hc_q, hc_inv, hc_go, Bool.cond_eq_ite] at hk
       repeat' split at hk
       all_goals first
         | (cases hk; done)
         | (simp only [Option.some.injEq, Sum.inl.injEq, Prod.mk.injEq] at hk
            exact hk.2.symm))
set_option maxHeartbeats 4000000 in
theorem hc_kind_mono {d pc pc' : Nat} {ty : Option FieldType} {I : hc_I} {L st L' st' : List hc_V} {h h' : hc_H} (hk : hc_kind d ty pc I L st h = some (.inr (.inl (pc', L', st', h')))) : h.1 ≤ h'.1 ∧ h.2.1 ≤ h'.2.1 := by
  obtain ⟨nx, ins, a, b, w, u⟩ := I
  cases ins <;> first
    | (cases hk; done)
    | (simp only [hc_kind, hc_lda, hc_ldi, hc_ldl, hc_sta, hc_sti, hc_stl, hc_inc, hc_b2, hc_b3, hc_dv, hc_rm, hc_l2, hc_ldv, hc_lrm, hc_llor, hc_llsh, hc_lcmp, hc_u1, hc_ul, hc_i2l, hc_kl2i, hc_dup, hc_dup2, hc_if, hc_icmp, hc_nul, hc_tsw, hc_lsw, hc_jmp, hc_getf, hc_putf, hc_newa, hc_newr, hc_len, hc_ald, hc_lald, hc_bald, hc_aald, hc_ast, hc_last, hc_bast, hc_aast, hc_copy, hc_clone, hc_cast, hc_slen, hc_chat, hc_oin, hc_new, hc_rti, hc_rtl, hc_rta, hc_rtv, hc_prim, hc_oinit, hc_ldk, hc_ld2, hc_aty, hc_p, hc_q, hc_inv, hc_go, Bool.cond_eq_ite] at hk
       repeat' split at hk
       all_goals first
         | (cases hk; done)
         | (simp only [Option.some.injEq, Sum.inr.injEq, Sum.inl.injEq, Prod.mk.injEq] at hk
            obtain ⟨-, -, -, rfl⟩ := hk
            try simp only [hc_wr, hc_al]
            omega))
theorem hc_run_mono : ∀ (n d : Nat) (mi : hc_M) (pc : Nat) (L st : List hc_V) (h : hc_H) (v : List hc_V) (h' : hc_H), hc_run n d mi pc L st h = some (v, h') → h.1 ≤ h'.1 ∧ h.2.1 ≤ h'.2.1 := by
  intro n
  induction n with
  | zero => intro d mi pc L st h v h' e; simp [hc_run] at e
  | succ n ih =>
    intro d mi pc L st h v h' e
    rw [hc_run] at e
    split at e
    · cases e
    · split at e
      · cases e
      next r hk =>
        simp only [Option.some.injEq] at e
        subst e
        rw [hc_kind_ret hk]
        exact ⟨Nat.le_refl _, Nat.le_refl _⟩
      next pc1 L1 st1 h1 hk =>
        have a := hc_kind_mono hk
        have b := ih _ _ _ _ _ _ _ _ e
        omega
      next a vs nx rest hk =>
        split at e
        next d1 mj hj =>
          cases hb : Nat.ble (hc_fl vs).length mj.2.2.1 with
          | false => rw [hb] at e; cases e
          | true =>
            rw [hb, cond_true] at e
            split at e
            next v1 h1 e1 =>
              have a := ih _ _ _ _ _ _ _ _ e1
              have b := ih _ _ _ _ _ _ _ _ e
              omega
            · cases e
        · cases e
set_option maxHeartbeats 4000000 in
theorem hc_prim_nc {d a nx : Nat} {L st : List hc_V} {h : hc_H} {q : Nat × List hc_V × Nat × List hc_V} : ¬ hc_prim d a nx L st h = some (.inr (.inr q)) := by
  intro hk
  simp only [hc_lda, hc_ldi, hc_ldl, hc_sta, hc_sti, hc_stl, hc_inc, hc_b2, hc_b3, hc_dv, hc_rm, hc_l2, hc_ldv, hc_lrm, hc_llor, hc_llsh, hc_lcmp, hc_u1, hc_ul, hc_i2l, hc_kl2i, hc_dup, hc_dup2, hc_if, hc_icmp, hc_nul, hc_tsw, hc_lsw, hc_jmp, hc_getf, hc_putf, hc_newa, hc_newr, hc_len, hc_ald, hc_lald, hc_bald, hc_aald, hc_ast, hc_last, hc_bast, hc_aast, hc_copy, hc_clone, hc_cast, hc_slen, hc_chat, hc_oin, hc_new, hc_rti, hc_rtl, hc_rta, hc_rtv, hc_prim, hc_oinit, hc_ldk, hc_ld2, hc_aty, hc_p, hc_q, hc_go, Bool.cond_eq_ite] at hk
  repeat' split at hk
  all_goals cases hk
theorem hc_oin_nc {d nx : Nat} {L st : List hc_V} {h : hc_H} {q : Nat × List hc_V × Nat × List hc_V} : ¬ hc_oinit d nx L st h = some (.inr (.inr q)) := by
  intro hk
  simp only [hc_oinit, hc_oin, hc_go, Bool.cond_eq_ite] at hk
  repeat' split at hk
  all_goals cases hk
set_option maxHeartbeats 4000000 in
theorem hc_kind_call {d pc : Nat} {ty : Option FieldType} {nx a b w u : Nat} {ins : Instr} {L st : List hc_V} {h : hc_H} {q : Nat × List hc_V × Nat × List hc_V} (hk : hc_kind d ty pc (nx, ins, a, b, w, u) L st h = some (.inr (.inr q))) : Nat.ble 1000 a = false ∧ ((∃ i, ins = .invokestatic i ∧ hc_inv 0 a b 0 nx L st h = some (.inr (.inr q))) ∨ (∃ i, ins = .invokevirtual i ∧ hc_inv 1 a b (u / 4) nx L st h = some (.inr (.inr q))) ∨ ∃ i, ins = .invokespecial i ∧ hc_inv 2 a b 0 nx L st h = some (.inr (.inr q))) := by
  cases ins with
  | invokestatic i =>
    have hk : (bif Nat.ble 1000 a then hc_prim d a nx L st h else hc_inv 0 a b 0 nx L st h) = some (.inr (.inr q)) := hk
    cases h1 : Nat.ble 1000 a with
    | true => rw [h1] at hk; exact absurd hk hc_prim_nc
    | false => rw [h1] at hk; exact ⟨rfl, Or.inl ⟨i, rfl, hk⟩⟩
  | invokevirtual i =>
    have hk : (bif Nat.ble 1000 a then hc_prim d a nx L st h else hc_inv 1 a b (u / 4) nx L st h) = some (.inr (.inr q)) := hk
    cases h1 : Nat.ble 1000 a with
    | true => rw [h1] at hk; exact absurd hk hc_prim_nc
    | false => rw [h1] at hk; exact ⟨rfl, Or.inr (Or.inl ⟨i, rfl, hk⟩)⟩
  | invokespecial i =>
    have hk : (bif Nat.ble 1000 a then hc_oinit d nx L st h else hc_inv 2 a b 0 nx L st h) = some (.inr (.inr q)) := hk
    cases h1 : Nat.ble 1000 a with
    | true => rw [h1] at hk; exact absurd hk hc_oin_nc
    | false => rw [h1] at hk; exact ⟨rfl, Or.inr (Or.inr ⟨i, rfl, hk⟩)⟩
  | _ =>
    exfalso
    first
    | (cases hk; done)
    | (simp only [hc_kind, hc_lda, hc_ldi, hc_ldl, hc_sta, hc_sti, hc_stl, hc_inc, hc_b2, hc_b3, hc_dv, hc_rm, hc_l2, hc_ldv, hc_lrm, hc_llor, hc_llsh, hc_lcmp, hc_u1, hc_ul, hc_i2l, hc_kl2i, hc_dup, hc_dup2, hc_if, hc_icmp, hc_nul, hc_tsw, hc_lsw, hc_jmp, hc_getf, hc_putf, hc_newa, hc_newr, hc_len, hc_ald, hc_lald, hc_bald, hc_aald, hc_ast, hc_last, hc_bast, hc_aast, hc_copy, hc_clone, hc_cast, hc_slen, hc_chat, hc_oin, hc_new, hc_rti, hc_rtl, hc_rta, hc_rtv, hc_prim, hc_oinit, hc_ldk, hc_ld2, hc_aty, hc_p, hc_q, hc_go, Bool.cond_eq_ite] at hk
       repeat' split at hk
       all_goals cases hk)
theorem hc_rti_sp {ty : Option FieldType} {st v : List hc_V} {h h' : hc_H} (hk : hc_rti ty st h = some (.inl (v, h'))) : ∃ x, st = [xI x] ∧ v = [xI x] ∧ ∃ t, ty = some t ∧ ∀ z : Int32, z.toInt = x → narrow t (.int z) = .int z := by
  unfold hc_rti at hk
  split at hk
  next x =>
    split at hk
    next =>
      simp only [Option.some.injEq, Sum.inl.injEq, Prod.mk.injEq] at hk
      exact ⟨x, rfl, hk.1.symm, _, rfl, fun _ _ => rfl⟩
    next =>
      split at hk
      next h01 =>
        simp only [Option.some.injEq, Sum.inl.injEq, Prod.mk.injEq] at hk
        refine ⟨x, rfl, hk.1.symm, _, rfl, fun z hz => ?_⟩
        have hz2 : z = 0 ∨ z = 1 := by
          rcases h01 with q | q
          · left; apply Int32.toInt_inj.mp; rw [hz, q]; rfl
          · right; apply Int32.toInt_inj.mp; rw [hz, q]; rfl
        rcases hz2 with rfl | rfl <;> decide
      next => cases hk
    next => cases hk
  next => cases hk
theorem hc_rtl_sp {ty : Option FieldType} {st v : List hc_V} {h h' : hc_H} (hk : hc_rtl ty st h = some (.inl (v, h'))) : ∃ x, st = [xL x] ∧ v = [xL x] ∧ ty = some .long := by
  unfold hc_rtl at hk
  split at hk
  next x =>
    split at hk
    next =>
      simp only [Option.some.injEq, Sum.inl.injEq, Prod.mk.injEq] at hk
      exact ⟨x, rfl, hk.1.symm, rfl⟩
    next => cases hk
  next => cases hk
theorem hc_rta_sp {ty : Option FieldType} {st v : List hc_V} {h h' : hc_H} (hk : hc_rta ty st h = some (.inl (v, h'))) : ∃ r, st = [xQ r] ∧ v = [xQ r] ∧ ∃ t, ty = some t ∧ ((∃ n, t = .object n) ∨ ∃ u, t = .array u) := by
  unfold hc_rta at hk
  split at hk
  next x =>
    split at hk
    next n =>
      simp only [Option.some.injEq, Sum.inl.injEq, Prod.mk.injEq] at hk
      exact ⟨x, rfl, hk.1.symm, _, rfl, Or.inl ⟨_, rfl⟩⟩
    next n =>
      simp only [Option.some.injEq, Sum.inl.injEq, Prod.mk.injEq] at hk
      exact ⟨x, rfl, hk.1.symm, _, rfl, Or.inr ⟨_, rfl⟩⟩
    next => cases hk
  next => cases hk
theorem hc_rtv_sp {ty : Option FieldType} {st v : List hc_V} {h h' : hc_H} (hk : hc_rtv ty st h = some (.inl (v, h'))) : st = [] ∧ v = [] ∧ ty = none := by
  unfold hc_rtv at hk
  split at hk
  next =>
    split at hk
    next =>
      simp only [Option.some.injEq, Sum.inl.injEq, Prod.mk.injEq] at hk
      exact ⟨rfl, hk.1.symm, rfl⟩
    next => cases hk
  next => cases hk
set_option maxHeartbeats 4000000 in
theorem hc_noret {d pc : Nat} {ty : Option FieldType} {nx a b w u : Nat} {ins : Instr} {L st v : List hc_V} {h h' : hc_H} (h1 : ins ≠ .ireturn) (h2 : ins ≠ .lreturn) (h3 : ins ≠ .areturn) (h4 : ins ≠ .return_) (hk : hc_kind d ty pc (nx, ins, a, b, w, u) L st h = some (.inl (v, h'))) : False := by
  cases ins <;> first
    | (cases hk; done)
    | exact absurd rfl h1
    | exact absurd rfl h2
    | exact absurd rfl h3
    | exact absurd rfl h4
    | (simp only [hc_kind, hc_lda, hc_ldi, hc_ldl, hc_sta, hc_sti, hc_stl, hc_inc, hc_b2, hc_b3, hc_dv, hc_rm, hc_l2, hc_ldv, hc_lrm, hc_llor, hc_llsh, hc_lcmp, hc_u1, hc_ul, hc_i2l, hc_kl2i, hc_dup, hc_dup2, hc_if, hc_icmp, hc_nul, hc_tsw, hc_lsw, hc_jmp, hc_getf, hc_putf, hc_newa, hc_newr, hc_len, hc_ald, hc_lald, hc_bald, hc_aald, hc_ast, hc_last, hc_bast, hc_aast, hc_copy, hc_clone, hc_cast, hc_slen, hc_chat, hc_oin, hc_new, hc_prim, hc_oinit, hc_ldk, hc_ld2, hc_aty, hc_p, hc_q, hc_inv, hc_go, Bool.cond_eq_ite] at hk
       repeat' split at hk
       all_goals cases hk)
