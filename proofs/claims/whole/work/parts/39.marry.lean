/-! the class: Marrying, second part: the lowest one of a set is married -/
def mst (lw ls : Nat → Int) (rest one : Nat) (v0 : Int) : Nat → Int × Int
  | 0 => (-1, v0)
  | n + 1 => if one < n ∧ Nat.testBit rest n = true then (if (mst lw ls rest one v0 n).1 = -1 ∨ lw (one * 8 + n) + ls (clr rest n) < (mst lw ls rest one v0 n).2 then ((n : Int), lw (one * 8 + n) + ls (clr rest n)) else mst lw ls rest one v0 n) else mst lw ls rest one v0 n
def mfn (lw ls : Nat → Int) (s al : Nat) : Int × Int := if pcn s % 2 = 1 ∧ ((mst lw ls (clr s (tz s)) (tz s) (ls s) al).1 = -1 ∨ lw (tz s * 8 + tz s) + ls (clr s (tz s)) < (mst lw ls (clr s (tz s)) (tz s) (ls s) al).2) then (((tz s : Nat) : Int), lw (tz s * 8 + tz s) + ls (clr s (tz s))) else mst lw ls (clr s (tz s)) (tz s) (ls s) al
theorem mst_0 {lw ls : Nat → Int} {rest one : Nat} {v0 : Int} : ∀ n : Nat, n ≤ one + 1 → mst lw ls rest one v0 n = (-1, v0) := by
  intro n
  induction n with
  | zero => intro _; rfl
  | succ n ih =>
    intro h
    simp only [mst]
    rw [if_neg (by omega)]
    exact ih (by omega)
def LSB (ls : Nat → Int) (s : Nat) : Prop := ∀ t, t < s → 0 ≤ ls t ∧ ls t ≤ 720720 * (t : Int)
theorem tz_bit' : ∀ s : Fin 256, 1 ≤ s.1 → Nat.testBit s.1 (tz s.1) = true := by decide +kernel
theorem u_u {f : Nat → Int} {s : Nat} {a b : Int} : hc_u (hc_u f s a) s b = hc_u f s b := by
  funext j
  unfold hc_u
  split <;> rfl
theorem u_id {f : Nat → Int} {s : Nat} : hc_u f s (f s) = f := by
  funext j
  unfold hc_u
  split
  · rename_i h
    rw [h]
  · rfl
theorem u_ne {f : Nat → Int} {s t : Nat} {a : Int} (h : t ≠ s) : hc_u f s a t = f t := if_neg h
theorem u_at {f : Nat → Int} {s : Nat} {a : Int} : hc_u f s a s = a := if_pos rfl
set_option maxRecDepth 100000 in
theorem l_ml {d : Nat} {h0 : hc_H} {Q : List hc_V → hc_H → Prop} {s al one rest : Nat} {tg v0 : Int} {lw ls : Nat → Int} (hs : 1 ≤ s ∧ s < 256) (hal : al ≤ 8) (hone : one < al) (hr : rest < s) (HL : LB lw) (HS : LSB ls s) (k : ∀ h2 f2 v2 q2 l72, h2.2.2 65 = mar tg → h2.2.2 66 = ar 64 lw → h2.2.2 67 = ar 256 (hc_u ls s v2) → (f2, v2) = mst lw ls rest one v0 al → ((f2 = -1 ∧ v2 = v0) ∨ ((0 ≤ f2 ∧ f2 < 8) ∧ 0 ≤ v2 ∧ v2 ≤ 720720 * (s : Int))) → Fr [67] h0 h2 → hc_wp d mX1_marryLowestOf 115 [xR 65, xI ((s : Nat) : Int), xI (al : Int), xI (one : Int), xI (rest : Int), xI f2, xI q2, l72] [] h2 Q) : ∀ (n p : Nat) (q f v : Int) (l7 : hc_V) (h : hc_H), q = (p : Int) → (one < p ∧ p ≤ al ∧ al < p + n) → mst lw ls rest one v0 p = (f, v) → ((f = -1 ∧ v = v0) ∨ ((0 ≤ f ∧ f < 8) ∧ 0 ≤ v ∧ v ≤ 720720 * (s : Int))) → h.2.2 65 = mar tg → h.2.2 66 = ar 64 lw → h.2.2 67 = ar 256 (hc_u ls s v) → Fr [67] h0 h → True → hc_wp d mX1_marryLowestOf 34 [xR 65, xI ((s : Nat) : Int), xI (al : Int), xI (one : Int), xI (rest : Int), xI f, xI q, l7] [] h Q := by
  intro n
  induction n with
  | zero =>
    intro p q f v l7 h e hn
    exact absurd hn (by omega)
  | succ n ih =>
    intro p q f v l7 h e hn hm0 hv H65 H66 H67 HF hn2
    have hm := hm0
    refine wp_go rfl rfl ?_
    refine wp_go rfl rfl ?_
    refine e_cge rfl (fun c37 => ?_) (fun c37 => ?_)
    · skip
      rw [show p = al by omega] at hm
      exact k h f v q l7 H65 H66 H67 hm.symm hv HF
    · skip
      refine wp_go rfl rfl ?_
      refine wp_go rfl rfl ?_
      refine wp_go rfl rfl ?_
      refine wp_go rfl rfl ?_
      refine wp_go rfl rfl ?_
      have eb : hc_and (hc_shr (rest : Int) q) 1 = if Nat.testBit rest p = true then 1 else 0 := by
        rw [e]
        exact b_test (by omega) (by omega)
      rw [eb]
      refine wp_go rfl rfl ?_
      refine e_cne rfl (fun c48 => ?_) (fun c48 => ?_)
      · skip
        refine e_inc (L' := [xR 65, xI ((s : Nat) : Int), xI (al : Int), xI (one : Int), xI (rest : Int), xI f, xI (q + 1), l7]) rfl rfl (by omega) rfl ?_
        refine wp_go rfl rfl ?_
        have e1 : mst lw ls rest one v0 (p + 1) = (f, v) := by
          simp only [mst]
          rw [if_neg (fun z => c48 (by rw [if_pos z.2])), hm]
        refine ih (p + 1) _ _ _ _ _ (by omega) (by omega) e1 hv H65 H66 H67 HF trivial
      · skip
        have hb : Nat.testBit rest p = true := by
          by_cases z : Nat.testBit rest p = true
          · exact z
          · rw [if_neg z] at c48
            exact absurd c48 (by omega)
        have hcl := clr_lt (s := rest) (p := p) (by omega) (by omega)
        have hlb := HL (one * 8 + p) (by omega)
        have hls := HS (clr rest p) (by omega)
        refine wp_go rfl rfl ?_
        refine e_get rfl H65 rfl rfl ?_
        refine wp_go rfl rfl ?_
        refine wp_go rfl rfl ?_
        refine e_imul rfl (by omega) ?_
        refine wp_go rfl rfl ?_
        refine e_iadd rfl (by omega) ?_
        refine e_ald rfl H66 rfl (by omega) ?_
        rw [show Int.toNat ((one : Int) * 8 + q) = one * 8 + p by omega]
        refine wp_go rfl rfl ?_
        refine e_get rfl H65 rfl rfl ?_
        refine wp_go rfl rfl ?_
        refine wp_go rfl rfl ?_
        refine wp_go rfl rfl ?_
        refine wp_go rfl rfl ?_
        refine wp_go rfl rfl ?_
        refine wp_go rfl rfl ?_
        refine wp_go rfl rfl ?_
        have ec : hc_and (rest : Int) (hc_xor (hc_shl 1 q) (-1)) = ((clr rest p : Nat) : Int) := by
          rw [e]
          exact b_clr (by omega) (by omega)
        rw [ec]
        refine e_ald rfl H67 rfl (by omega) ?_
        rw [Int.toNat_natCast, u_ne (show clr rest p ≠ s by omega)]
        refine e_iadd rfl (by omega) ?_
        refine e_ist (L' := [xR 65, xI ((s : Nat) : Int), xI (al : Int), xI (one : Int), xI (rest : Int), xI f, xI q, xI ((lw (one * 8 + p)) + (ls (clr rest p)))]) rfl rfl rfl ?_
        obtain ⟨sm, hsm⟩ : ∃ z : Int, z = lw (one * 8 + p) + ls (clr rest p) := ⟨_, rfl⟩
        rw [← hsm]
        refine wp_go rfl rfl ?_
        refine wp_go rfl rfl ?_
        refine e_ceq rfl (fun c83 => ?_) (fun c83 => ?_)
        · skip
          refine wp_go rfl rfl ?_
          refine e_get rfl H65 rfl rfl ?_
          refine wp_go rfl rfl ?_
          refine wp_go rfl rfl ?_
          refine e_iast rfl H67 (by omega) ?_
          rw [Int.toNat_natCast, u_u]
          refine wp_go rfl rfl ?_
          refine e_ist (L' := [xR 65, xI ((s : Nat) : Int), xI (al : Int), xI (one : Int), xI (rest : Int), xI q, xI q, xI sm]) rfl rfl rfl ?_
          refine e_inc (L' := [xR 65, xI ((s : Nat) : Int), xI (al : Int), xI (one : Int), xI (rest : Int), xI q, xI (q + 1), xI sm]) rfl rfl (by omega) rfl ?_
          refine wp_go rfl rfl ?_
          have e1 : mst lw ls rest one v0 (p + 1) = ((p : Int), sm) := by
            simp only [mst]
            rw [if_pos ⟨by omega, hb⟩, hm, ← hsm, if_pos (by dsimp only; omega)]
          refine ih (p + 1) _ _ _ _ _ (by omega) (by omega) (e1.trans (by rw [e])) (Or.inr (by omega)) H65 H66 rfl (HF.wr rfl) trivial
        · skip
          refine wp_go rfl rfl ?_
          refine wp_go rfl rfl ?_
          refine e_get rfl H65 rfl rfl ?_
          refine wp_go rfl rfl ?_
          refine e_ald rfl H67 rfl (by omega) ?_
          rw [Int.toNat_natCast, u_at]
          refine e_cge rfl (fun c94 => ?_) (fun c94 => ?_)
          · skip
            refine e_inc (L' := [xR 65, xI ((s : Nat) : Int), xI (al : Int), xI (one : Int), xI (rest : Int), xI f, xI (q + 1), xI sm]) rfl rfl (by omega) rfl ?_
            refine wp_go rfl rfl ?_
            have e1 : mst lw ls rest one v0 (p + 1) = (f, v) := by
              simp only [mst]
              rw [if_pos ⟨by omega, hb⟩, hm, ← hsm, if_neg (by dsimp only; omega)]
            refine ih (p + 1) _ _ _ _ _ (by omega) (by omega) e1 hv H65 H66 H67 HF trivial
          · skip
            refine wp_go rfl rfl ?_
            refine e_get rfl H65 rfl rfl ?_
            refine wp_go rfl rfl ?_
            refine wp_go rfl rfl ?_
            refine e_iast rfl H67 (by omega) ?_
            rw [Int.toNat_natCast, u_u]
            refine wp_go rfl rfl ?_
            refine e_ist (L' := [xR 65, xI ((s : Nat) : Int), xI (al : Int), xI (one : Int), xI (rest : Int), xI q, xI q, xI sm]) rfl rfl rfl ?_
            refine e_inc (L' := [xR 65, xI ((s : Nat) : Int), xI (al : Int), xI (one : Int), xI (rest : Int), xI q, xI (q + 1), xI sm]) rfl rfl (by omega) rfl ?_
            refine wp_go rfl rfl ?_
            have e1 : mst lw ls rest one v0 (p + 1) = ((p : Int), sm) := by
              simp only [mst]
              rw [if_pos ⟨by omega, hb⟩, hm, ← hsm, if_pos (by dsimp only; omega)]
            refine ih (p + 1) _ _ _ _ _ (by omega) (by omega) (e1.trans (by rw [e])) (Or.inr (by omega)) H65 H66 rfl (HF.wr rfl) trivial
