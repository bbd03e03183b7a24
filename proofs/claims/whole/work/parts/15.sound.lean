section SX
variable {D : va_G} {cA : Nat → ClassId} {base b0 : Nat} {adK adV : Nat → Nat} {sL : Nat} {xs : Nat → Int32}
theorem hc_callW {p : Program} {l : Launch} {e : Env} {R : Room} {s : State} {m : MethodId} {args : Array Value} {below : List Frame} {meth : Method} {c : Code} {H : Heap} {locs : List Loc} {cells slots mc ms : Nat} {Q : State → Prop} {pc : Nat} {ls : Array Slot} {st0 rest : List Value} {a : Array Value} {v1 : List hc_V} {h1 : hc_H} (hr : va_Run p l e R s m args below meth c H locs cells slots mc ms (F0 m pc ls st0) rest (hc_Qc D cA base b0 adK sL xs v1 h1 a) (fun q => base ≤ q)) (hS : va_S (fun q => base ≤ q) s.heap H locs)
    (kk : ∀ (w : Option Value) (H1 : Heap) (locs1 : List Loc), hc_sr (hc_ad base b0 adK) v1 w.toList → hc_rel D cA base (hc_ad base b0 adK) sL xs h1 H1 → va_S (fun q => base ≤ q) s.heap H1 locs1 → W p l e R s m args below meth c H1 locs1 (cells + mc) (slots + ms) Q (F0 m (pc + 3) ls (w.toList ++ rest))) : W p l e R s m args below meth c H locs cells slots Q (F0 m pc ls st0) := by
  intro T hT X
  obtain ⟨v, st₀, t, T', L, h0, X', hL, e1, e2, ⟨w, hv, hw, hrel, hz, hk⟩, st⟩ := hr T hT X
  cases hv
  rw [h0] at hz hk
  obtain ⟨t2, a1, b1⟩ := kk v T'.heap (locs ++ L) hw (by rw [e1]; exact hrel)
    ⟨Nat.le_trans hS.1 (by rw [e1]; exact hz), fun q h1 h2 => by rw [e1, hk q (Nat.lt_of_lt_of_le h1 hS.1) h2]; exact hS.2.1 q h1 h2, fun q hq => by
      rcases List.mem_append.mp hq with h | h
      · exact hS.2.2 q h
      · exact hL q h⟩ T' rfl X'
  exact ⟨t2, st t2 a1, b1⟩
theorem hc_Pc_blind {vs : List hc_V} {h : hc_H} : FrameBlind (hc_Pc D cA base b0 adK adV sL xs vs h) := fun a U g mk q => ⟨q.1, q.2.1, q.2.2.calling g mk a⟩
/-- what a call needs: the frame's part of its words -/
theorem hc_okh_sp {mj : hc_M} (hh : hc_okh mj = true) : plainName mj.1.cls = true ∧ (mj.1.cls ≠ "java/lang/invoke/MethodHandle" ∧ mj.1.cls ≠ "java/lang/invoke/VarHandle" ∧ (parseMethodDescriptor mj.1.desc).map (fun d => d.parameters.length) = some mj.2.2.2.2.2.1) ∧ mj.2.2.1 ≤ 40 ∧ Cond.initialized mj.1.cls ∈ hc_TB ∧ (mj.2.2.2.2.1 = 0 → Cond.static mj.1 ∈ hc_TB) ∧ (mj.2.2.2.2.1 = 1 → Cond.instanceMethod mj.1 ∈ hc_TB ∧ Cond.selects mj.1.cls mj.1 mj.1 ∈ hc_TB) ∧ (mj.2.2.2.2.1 = 2 → Cond.instanceMethod mj.1 ∈ hc_TB ∧ mj.1.name = "<init>" ∧ mj.2.2.2.1 = none) := by
  obtain ⟨y, bytes, n, ret, k, np, ws, code⟩ := mj
  have hw : ∀ {i : Nat} {w : Cond}, hc_w i w = true → w ∈ hc_TB := fun h => List.mem_filter.mpr (hc_wmem h)
  simp only [hc_okh, Bool.and_eq_true, decide_eq_true_eq] at hh
  obtain ⟨⟨⟨⟨⟨h1, h2⟩, h3⟩, h4⟩, h5⟩, h6⟩ := hh
  split at h6
  next w0 w1 w2 w3 =>
    rw [Bool.and_eq_true] at h6
    refine ⟨h1, ⟨h2, h3, h4⟩, Nat.le_of_ble_eq_true h5, hw h6.1, fun e => ?_, fun e => ?_, fun e => ?_⟩
    · have e : k = 0 := e
      subst e
      exact hw h6.2
    · have e : k = 1 := e
      subst e
      have := h6.2
      simp only [Bool.and_eq_true] at this
      exact ⟨hw this.1, hw this.2⟩
    · have e : k = 2 := e
      subst e
      have := h6.2
      simp only [Bool.and_eq_true, decide_eq_true_eq] at this
      exact ⟨hw this.1.1, this.1.2, this.2⟩
  next => cases h6
theorem hc_inv0 {a b ci nx a' nx' : Nat} {L st vs rest : List hc_V} {h : hc_H} (hk : hc_inv 0 a b ci nx L st h = some (.inr (.inr (a', vs, nx', rest)))) : a' = a ∧ nx' = nx ∧ hc_tk b st [] = some (vs, rest) ∧ hc_sz rest ≤ 8 := by
  unfold hc_inv at hk
  cases ht : hc_tk b st [] with
  | none => rw [ht] at hk; cases hk
  | some q =>
    obtain ⟨v2, s2⟩ := q
    rw [ht] at hk
    simp only at hk
    cases h8 : Nat.ble (hc_sz s2) 8 with
    | false => rw [h8] at hk; cases hk
    | true =>
      rw [h8, cond_true] at hk
      simp only [Option.some.injEq, Sum.inr.injEq, Prod.mk.injEq] at hk
      obtain ⟨rfl, rfl, rfl, rfl⟩ := hk
      exact ⟨rfl, rfl, rfl, Nat.le_of_ble_eq_true h8⟩
theorem hc_inv1 {a b ci nx a' nx' : Nat} {L st vs rest : List hc_V} {h : hc_H} (hk : hc_inv 1 a b ci nx L st h = some (.inr (.inr (a', vs, nx', rest)))) : a' = a ∧ nx' = nx ∧ ∃ r vs2 fs, hc_tk b st [] = some (vs2, xR r :: rest) ∧ vs = xR r :: vs2 ∧ h.2.2 r = .inr (ci, fs) ∧ hc_sz rest ≤ 8 := by
  unfold hc_inv at hk
  cases ht : hc_tk b st [] with
  | none => rw [ht] at hk; cases hk
  | some q =>
    obtain ⟨v2, s2⟩ := q
    rw [ht] at hk
    simp only at hk
    split at hk
    next r s3 =>
      split at hk
      next cr fs hc =>
        cases h8 : (Nat.beq cr ci && Nat.ble (hc_sz s3) 8) with
        | false => rw [h8] at hk; cases hk
        | true =>
          rw [h8, cond_true] at hk
          simp only [Option.some.injEq, Sum.inr.injEq, Prod.mk.injEq] at hk
          obtain ⟨rfl, rfl, rfl, rfl⟩ := hk
          rw [Bool.and_eq_true] at h8
          have := Nat.eq_of_beq_eq_true h8.1
          subst this
          exact ⟨rfl, rfl, r, v2, fs, rfl, rfl, hc, Nat.le_of_ble_eq_true h8.2⟩
      next => cases hk
    next => cases hk
theorem hc_inv2 {a b ci nx a' nx' : Nat} {L st vs rest : List hc_V} {h : hc_H} (hk : hc_inv 2 a b ci nx L st h = some (.inr (.inr (a', vs, nx', rest)))) : a' = a ∧ nx' = nx ∧ ∃ r vs2, hc_tk b st [] = some (vs2, xR r :: rest) ∧ vs = xR r :: vs2 ∧ hc_sz rest ≤ 8 := by
  unfold hc_inv at hk
  cases ht : hc_tk b st [] with
  | none => rw [ht] at hk; cases hk
  | some q =>
    obtain ⟨v2, s2⟩ := q
    rw [ht] at hk
    simp only at hk
    split at hk
    next r s3 =>
      cases h8 : Nat.ble (hc_sz s3) 8 with
      | false => rw [h8] at hk; cases hk
      | true =>
        rw [h8, cond_true] at hk
        simp only [Option.some.injEq, Sum.inr.injEq, Prod.mk.injEq] at hk
        obtain ⟨rfl, rfl, rfl, rfl⟩ := hk
        exact ⟨rfl, rfl, r, v2, rfl, rfl, Nat.le_of_ble_eq_true h8⟩
    next => cases hk
theorem hc_sound (hMT : ∀ mj ∈ hc_MT, hc_hok mj) : ∀ n, hc_Snd D cA base b0 adK adV sL xs n := by
  intro n
  induction n with
  | zero => intro d mi pc L st h v h' e; simp [hc_run] at e
  | succ n ih =>
    intro d mi pc L st h v h' hrun hall p l e R s m args below meth c H locs cells slots Q ls stk hC hat hrm hret
    rw [hc_run] at hrun
    split at hrun
    · cases hrun
    next I hI =>
      have hok := hall pc I hI
      split at hrun
      · cases hrun
      next r hk =>
        simp only [Option.some.injEq] at hrun
        subst hrun
        have eh := hc_kind_ret hk
        subst eh
        have := hret pc I L st ls stk H locs hI hk (by simpa using hat)
        simpa using this
      next pc1 L1 st1 h1 hk =>
        have mo1 := hc_kind_mono hk
        have mo2 := hc_run_mono _ _ _ _ _ _ _ _ _ hrun
        refine hc_step hC hok rfl hk ⟨by omega, by omega⟩ hat (fun ls1 stk1 H1 locs1 hat1 => ?_)
        have ea : cells + (h1.1 - h.1) + (h'.1 - h1.1) = cells + (h'.1 - h.1) := by omega
        have eb : slots + (h1.2.1 - h.2.1) + (h'.2.1 - h1.2.1) = slots + (h'.2.1 - h.2.1) := by omega
        refine ih d mi pc1 L1 st1 h1 v h' hrun hall hC hat1 ⟨by omega, by omega⟩ ?_
        rw [ea, eb]
        exact hret
      next a vs nx rest hk =>
        split at hrun
        next d1 mj hj =>
          cases hb : Nat.ble (hc_fl vs).length mj.2.2.1 with
          | false => rw [hb] at hrun; cases hrun
          | true =>
            rw [hb, cond_true] at hrun
            have hfl := Nat.le_of_ble_eq_true hb
            split at hrun
            next v1 h1 e1 =>
              have mo1 := hc_run_mono _ _ _ _ _ _ _ _ _ e1
              have mo2 := hc_run_mono _ _ _ _ _ _ _ _ _ hrun
              have hjok : hc_hok mj := hMT mj (by rw [hc_gt_eq] at hj; exact List.mem_of_getElem? hj)
              have hM := hc_met ih l hjok hfl e1
              obtain ⟨g1, g2, g3, g4, gS, gV, gI⟩ := hc_okh_sp hjok.1
              obtain ⟨hx, hbc, hml, hown, hts, hX, ⟨hfr, hlo⟩, hini⟩ := id hC
              have hts' := hc_htsF (Z := []) hts
              have ea : cells + (h1.1 - h.1) + (h'.1 - h1.1) = cells + (h'.1 - h.1) := by omega
              have eb : slots + (h1.2.1 - h.2.1) + (h'.2.1 - h1.2.1) = slots + (h'.2.1 - h.2.1) := by omega
              have hroom : cells + (h1.1 - h.1) ≤ R.cells ∧ slots + (h1.2.1 - h.2.1) ≤ R.slots := ⟨by omega, by omega⟩
              have hRf : d1 + 1 ≤ R.frames ∧ 8 + (mj.2.2.1 + 11) + d1 * 64 ≤ R.locals := ⟨hfr, by omega⟩
              obtain ⟨nx', ins, a', b', w', u'⟩ := I
              obtain ⟨hble, hcase⟩ := hc_kind_call hk
              obtain ⟨k1, k2, k3, k4, k5⟩ := id hat
              have hgo : ∀ (rk : List Value), hc_sr (hc_ad base b0 adK) rest rk → ∀ (w : Option Value) (H1 : Heap) (locs1 : List Loc), hc_sr (hc_ad base b0 adK) v1 w.toList → hc_rel D cA base (hc_ad base b0 adK) sL xs h1 H1 → va_S (fun q => base ≤ q) s.heap H1 locs1 → W p l e R s m args below meth c H1 locs1 (cells + (h1.1 - h.1)) (slots + (h1.2.1 - h.2.1)) Q (F0 m nx ls (w.toList ++ rk)) := by
                intro rk hrk w H1 locs1 hw hrel hS1
                have hsz : H1.size = s.heap.size + (cells + (h1.1 - h.1)) := by
                  obtain ⟨c1, q1, q2, -⟩ := hrel
                  obtain ⟨c2, q3, q4, -⟩ := k3
                  omega
                refine ih (d1 + 1) mi nx L (v1 ++ rest) h1 v h' hrun hall hC ⟨k1, hc_sr_cat hw hrk, hrel, hS1, hsz⟩ ⟨by omega, by omega⟩ ?_
                rw [ea, eb]
                exact hret
              have hPre : ∀ (As : List Value), hc_sr (hc_ad base b0 adK) vs As → ∀ U : State, U.heap = H → s.WarmedH U.vm → hc_Pc D cA base b0 adK adV sL xs vs h As.toArray U := by
                intro As hAs U hU hW
                exact ⟨by simpa using hAs, by rw [hU]; exact k3, hX.moved hW (by rw [hU]; exact k4)⟩
              rcases hcase with ⟨i, hins, hinv⟩ | ⟨i, hins, hinv⟩ | ⟨i, hins, hinv⟩
              · subst hins
                obtain ⟨hdg, hnx, ho⟩ := hc_un (i := .invokestatic i) (n := 3) (nx := nx') hok
                have ho2 : (bif Nat.ble 1000 a' then hc_okm mi.1.cls i a' w' true else hc_okc mi.1.cls 0 i a' b' w' u') = true := ho
                rw [hble, cond_false] at ho2
                obtain ⟨rfl, rfl, htk, h8⟩ := hc_inv0 hinv
                obtain ⟨pre, hst, hvs, hlen⟩ := hc_tk_spec htk
                rw [hst] at k2
                obtain ⟨s1, s2, hstk, hs1, hs2⟩ := hc_sr_app k2
                subst hstk
                rw [List.append_nil] at hvs
                have hAs : hc_sr (hc_ad base b0 adK) vs s1.reverse := by rw [hvs]; exact hc_sr_rev hs1
                unfold hc_okc at ho2
                rw [hj] at ho2
                simp only [Bool.and_eq_true] at ho2
                obtain ⟨⟨⟨o1, o2⟩, o3⟩, -⟩ := ho2
                have o1 := Nat.eq_of_beq_eq_true o1
                have o2 := Nat.eq_of_beq_eq_true o2
                have hl1 : s1.reverse.length = mj.2.2.2.2.2.1 := by rw [List.length_reverse, hc_sr_len hs1, hlen, o2]
                have hst2 : (F0 m pc ls (s1 ++ s2)).stack = s1.reverse.reverse ++ s2 := by simp
                have hsz8 : (s2.map fun v => v.category).sum ≤ 8 := by rw [hc_sz_eq hs2]; exact h8
                subst hnx
                cases hm : Nat.beq (u' % 2) 0 with
                | true =>
                  rw [hm, cond_true] at o3
                  exact hc_callW (va_runS (As := s1.reverse) (rest := s2) (Ts := hc_TB) ⟨hx, hbc, hml, hown, hts'⟩ hM ⟨callB_of _ hts' (hc_GI hjok.2.2) rfl rfl rfl (hts' _ g4) (hts _ (hc_wmem o3).1 (hc_wmem o3).2) g2 hRf, hts' _ (gS o1)⟩ ⟨hc_Pc_blind, hPre _ hAs⟩ rfl hl1 k1.1 hst2 (lv_room hsz8) hdg hroom) k4 (hgo s2 hs2)
                | false =>
                  rw [hm, cond_false] at o3
                  exact hc_callW (va_runSN (As := s1.reverse) (rest := s2) (Ts := hc_TB) ⟨hx, hbc, hml, hown, hts'⟩ hM ⟨va_cnB _ hts' (hc_GI hjok.2.2) rfl rfl rfl (hX.2.2.2.1 _ (hc_wnmem o3).1 (hc_wnmem o3).2) (hts' _ g4) g2 hRf, hts' _ (gS o1), trivial⟩ ⟨hc_Pc_blind, hPre _ hAs⟩ rfl hl1 k1.1 hst2 (lv_room hsz8) hdg hroom) k4 (hgo s2 hs2)
              · subst hins
                obtain ⟨hdg, hnx, ho⟩ := hc_un (i := .invokevirtual i) (n := 3) (nx := nx') hok
                have ho2 : (bif Nat.ble 1000 a' then hc_okm mi.1.cls i a' w' false else hc_okc mi.1.cls 1 i a' b' w' u') = true := ho
                rw [hble, cond_false] at ho2
                obtain ⟨rfl, rfl, r, vs2, fs, htk, rfl, hcell, h8⟩ := hc_inv1 hinv
                obtain ⟨pre, hst, hvs, hlen⟩ := hc_tk_spec htk
                rw [hst] at k2
                obtain ⟨s1, s20, hstk, hs1, hs20⟩ := hc_sr_app k2
                subst hstk
                obtain ⟨w1, s2, rfl, hw1, hs2⟩ := hc_sr_cons hs20
                cases hc_vr_ref hw1
                rw [List.append_nil] at hvs
                have hAs : hc_sr (hc_ad base b0 adK) (xR r :: vs2) (.ref ((hc_ad base b0 adK) r) :: s1.reverse) := by rw [hvs]; exact ⟨hc_mkR, hc_sr_rev hs1⟩
                unfold hc_okc at ho2
                rw [hj] at ho2
                simp only [Bool.and_eq_true] at ho2
                obtain ⟨⟨⟨o1, o2⟩, o3⟩, o4⟩ := ho2
                have o1 := Nat.eq_of_beq_eq_true o1
                have o2 := Nat.eq_of_beq_eq_true o2
                have o4 : (match hc_gt vwCl (u' / 4) with
                  | some (C, _, _) => decide (C = mj.1.cls)
                  | none => false) = true := o4
                obtain ⟨C, T, N, hcl, rfl⟩ : ∃ C T N, hc_gt vwCl (u' / 4) = some (C, T, N) ∧ C = mj.1.cls := by
                  split at o4
                  next C T N hcl => exact ⟨C, T, N, hcl, of_decide_eq_true o4⟩
                  next => cases o4
                have hcl' : vwCl[u' / 4]? = some (mj.1.cls, T, N) := by rw [← hc_gt_eq]; exact hcl
                obtain ⟨cw, hcw⟩ := k3
                obtain ⟨ce, hce, hcr, -, -⟩ := hc_cell hcw hcell (hc_ob_d (hc_cls_lt hcl)) hc_ob_s
                obtain ⟨fs', rfl, -⟩ := hcr
                have hrec := va_recv hX.1 hcw.2.2.2.1 hcl' hce
                have hl1 : s1.reverse.length = mj.2.2.2.2.2.1 := by rw [List.length_reverse, hc_sr_len hs1, hlen, o2]
                have hst2 : (F0 m pc ls (s1 ++ .ref ((hc_ad base b0 adK) r) :: s2)).stack = s1.reverse.reverse ++ .ref ((hc_ad base b0 adK) r) :: s2 := by simp
                have hsz8 : (s2.map fun v => v.category).sum ≤ 8 := by rw [hc_sz_eq hs2]; exact h8
                subst hnx
                cases hm : Nat.beq (u' % 2) 0 with
                | true =>
                  rw [hm, cond_true] at o3
                  exact hc_callW (va_runV (As := s1.reverse) (rest := s2) (Ts := hc_TB) ⟨hx, hbc, hml, hown, hts'⟩ hM ⟨callB_of _ hts' (hc_GI hjok.2.2) rfl rfl rfl (hts' _ g4) (hts _ (hc_wmem o3).1 (hc_wmem o3).2) g2 hRf, hts' _ (gV o1).1, hts' _ (gV o1).2⟩ ⟨hc_Pc_blind, hrec, hPre _ hAs⟩ rfl hl1 k1.1 hst2 (lv_room hsz8) hdg hroom) k4 (hgo s2 hs2)
                | false =>
                  rw [hm, cond_false] at o3
                  exact hc_callW (va_runVN (As := s1.reverse) (rest := s2) (Ts := hc_TB) ⟨hx, hbc, hml, hown, hts'⟩ hM ⟨va_cnB _ hts' (hc_GI hjok.2.2) rfl rfl rfl (hX.2.2.2.1 _ (hc_wnmem o3).1 (hc_wnmem o3).2) (hts' _ g4) g2 hRf, hts' _ (gV o1).1, hts' _ (gV o1).2⟩ ⟨hc_Pc_blind, hrec, hPre _ hAs⟩ rfl hl1 k1.1 hst2 (lv_room hsz8) hdg hroom) k4 (hgo s2 hs2)
              · subst hins
                obtain ⟨hdg, hnx, ho⟩ := hc_un (i := .invokespecial i) (n := 3) (nx := nx') hok
                have ho2 : (bif Nat.ble 1000 a' then hc_w w' (.methodLink mi.1.cls i Lib.objectInit) else hc_okc mi.1.cls 2 i a' b' w' u') = true := ho
                rw [hble, cond_false] at ho2
                obtain ⟨rfl, rfl, r, vs2, htk, rfl, h8⟩ := hc_inv2 hinv
                obtain ⟨pre, hst, hvs, hlen⟩ := hc_tk_spec htk
                rw [hst] at k2
                obtain ⟨s1, s20, hstk, hs1, hs20⟩ := hc_sr_app k2
                subst hstk
                obtain ⟨w1, s2, rfl, hw1, hs2⟩ := hc_sr_cons hs20
                cases hc_vr_ref hw1
                rw [List.append_nil] at hvs
                have hAs : hc_sr (hc_ad base b0 adK) (xR r :: vs2) (.ref ((hc_ad base b0 adK) r) :: s1.reverse) := by rw [hvs]; exact ⟨hc_mkR, hc_sr_rev hs1⟩
                unfold hc_okc at ho2
                rw [hj] at ho2
                simp only [Bool.and_eq_true] at ho2
                obtain ⟨⟨⟨o1, o2⟩, o3⟩, -⟩ := ho2
                have o1 := Nat.eq_of_beq_eq_true o1
                have o2 := Nat.eq_of_beq_eq_true o2
                obtain ⟨gi1, gi2, gi3⟩ := gI o1
                rw [gi3] at hM
                have hcode := hjok.2.2
                rw [gi3] at hcode
                have hl1 : s1.reverse.length = mj.2.2.2.2.2.1 := by rw [List.length_reverse, hc_sr_len hs1, hlen, o2]
                have hst2 : (F0 m pc ls (s1 ++ .ref ((hc_ad base b0 adK) r) :: s2)).stack = s1.reverse.reverse ++ .ref ((hc_ad base b0 adK) r) :: s2 := by simp
                have hsz8 : (s2.map fun v => v.category).sum ≤ 8 := by rw [hc_sz_eq hs2]; exact h8
                subst hnx
                cases hm : Nat.beq (u' % 2) 0 with
                | true =>
                  rw [hm, cond_true] at o3
                  exact hc_callW (va_runI (As := s1.reverse) (rest := s2) (Ts := hc_TB) ⟨hx, hbc, hml, hown, hts'⟩ hM ⟨callB_of _ hts' (hc_GI hcode) rfl rfl rfl (hts' _ g4) (hts _ (hc_wmem o3).1 (hc_wmem o3).2) g2 hRf, gi2, hts' _ gi1⟩ ⟨hc_Pc_blind, hPre _ hAs⟩ rfl hl1 k1.1 hst2 (lv_room hsz8) hdg hroom) k4 (hgo s2 hs2)
                | false =>
                  rw [hm, cond_false] at o3
                  exact hc_callW (va_runIN (As := s1.reverse) (rest := s2) (Ts := hc_TB) ⟨hx, hbc, hml, hown, hts'⟩ hM ⟨va_cnB _ hts' (hc_GI hcode) rfl rfl rfl (hX.2.2.2.1 _ (hc_wnmem o3).1 (hc_wnmem o3).2) (hts' _ g4) g2 hRf, gi2, hts' _ gi1⟩ ⟨hc_Pc_blind, hPre _ hAs⟩ rfl hl1 k1.1 hst2 (lv_room hsz8) hdg hroom) k4 (hgo s2 hs2)
            next => cases hrun
        next => cases hrun
end SX
