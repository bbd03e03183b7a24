/-! the class: Netting, third part: the most sets, one set -/
def csf (bl sm mo : Nat → Int) (s : Nat) : Nat → Int × Int
  | 0 => (0, 0)
  | p + 1 => if Nat.testBit s p = true then (sm (clr s p) + bl p, if (csf bl sm mo s p).2 < mo (clr s p) then mo (clr s p) else (csf bl sm mo s p).2) else csf bl sm mo s p
theorem pcn_clr' : ∀ s : Fin 256, ∀ p : Fin 8, Nat.testBit s.1 p.1 = true → pcn (clr s.1 p.1) + 1 = pcn s.1 := by decide +kernel
theorem pcn_8' : ∀ s : Fin 256, pcn s.1 ≤ 8 := by decide +kernel
def CSB (sm mo : Nat → Int) (s : Nat) : Prop := ∀ t, t < s → (-14414400 * ((pcn t : Nat) : Int) ≤ sm t ∧ sm t ≤ 14414400 * ((pcn t : Nat) : Int)) ∧ 0 ≤ mo t ∧ mo t ≤ ((pcn t : Nat) : Int)
set_option maxRecDepth 100000 in
theorem l_cs {d : Nat} {h0 : hc_H} {Q : List hc_V → hc_H → Prop} {s : Nat} {pn o : Int} {bl sm mo : Nat → Int} (hs : 1 ≤ s ∧ s < 256) (HB : ∀ j, j < 8 → -14414400 ≤ bl j ∧ bl j ≤ 14414400) (HC : CSB sm mo s) (k : ∀ h2 a2 b2 i2 l42, (a2, b2) = csf bl sm mo s 8 → (-14414400 * ((pcn s : Nat) : Int) ≤ a2 ∧ a2 ≤ 14414400 * ((pcn s : Nat) : Int)) → (0 ≤ b2 ∧ (b2 = 0 ∨ b2 + 1 ≤ ((pcn s : Nat) : Int))) → h2.2.2 58 = net pn → h2.2.2 59 = ar 8 bl → h2.2.2 60 = ar 256 (hc_u sm s a2) → h2.2.2 61 = ar 256 (hc_u mo s b2) → Fr [60, 61] h0 h2 → hc_wp (d + 1) mX2_countSets 116 [xR 58, xI o, xI ((s : Nat) : Int), xI i2, l42] [] h2 Q) : ∀ (g p : Nat) (i a b : Int) (l4 : hc_V) (h : hc_H), i = (p : Int) → (p ≤ 8 ∧ 8 < p + g) → csf bl sm mo s p = (a, b) → (-14414400 * ((pcn s : Nat) : Int) ≤ a ∧ a ≤ 14414400 * ((pcn s : Nat) : Int)) → (0 ≤ b ∧ (b = 0 ∨ b + 1 ≤ ((pcn s : Nat) : Int))) → h.2.2 58 = net pn → h.2.2 59 = ar 8 bl → h.2.2 60 = ar 256 (hc_u sm s a) → h.2.2 61 = ar 256 (hc_u mo s b) → Fr [60, 61] h0 h → True → hc_wp (d + 1) mX2_countSets 44 [xR 58, xI o, xI ((s : Nat) : Int), xI i, l4] [] h Q := by
  intro g
  induction g with
  | zero =>
    intro p i a b l4 h e hn
    exact absurd hn (by omega)
  | succ g ih =>
    intro p i a b l4 h e hn hm ha hbb H58 H59 H60 H61 HF hn2
    refine wp_go rfl rfl ?_
    refine wp_go rfl rfl ?_
    refine e_cge rfl (fun c47 => ?_) (fun c47 => ?_)
    · skip
      rw [show p = 8 by omega] at hm
      exact k h a b i l4 hm.symm ha hbb H58 H59 H60 H61 HF
    · skip
      refine wp_go rfl rfl ?_
      refine wp_go rfl rfl ?_
      refine wp_go rfl rfl ?_
      refine wp_go rfl rfl ?_
      refine wp_go rfl rfl ?_
      have eb : hc_and (hc_shr (s : Int) i) 1 = if Nat.testBit s p = true then 1 else 0 := by
        rw [e]
        exact b_test (by omega) (by omega)
      rw [eb]
      refine wp_go rfl rfl ?_
      refine e_cne rfl (fun c56 => ?_) (fun c56 => ?_)
      · skip
        refine e_inc (L' := [xR 58, xI o, xI ((s : Nat) : Int), xI (i + 1), l4]) rfl rfl (by omega) rfl ?_
        refine wp_go rfl rfl ?_
        have e1 : csf bl sm mo s (p + 1) = (a, b) := by
          simp only [csf]
          rw [if_neg (fun z => c56 (by rw [if_pos z])), hm]
        refine ih (p + 1) _ _ _ _ _ (by omega) (by omega) e1 ha hbb H58 H59 H60 H61 HF trivial
      · skip
        have hb : Nat.testBit s p = true := by
          by_cases z : Nat.testBit s p = true
          · exact z
          · rw [if_neg z] at c56
            exact absurd c56 (by omega)
        have hbl := HB p (by omega)
        have hcl := (clr_lt (s := s) (p := p) (by omega) (by omega)).2.1 hb
        have hpc := pcn_clr' ⟨s, by omega⟩ ⟨p, by omega⟩ hb
        have hp8 := pcn_8' ⟨s, by omega⟩
        dsimp only at hpc hp8
        have hcs := HC (clr s p) hcl
        refine wp_go rfl rfl ?_
        refine wp_go rfl rfl ?_
        refine wp_go rfl rfl ?_
        refine wp_go rfl rfl ?_
        refine wp_go rfl rfl ?_
        refine wp_go rfl rfl ?_
        refine wp_go rfl rfl ?_
        have ec : hc_and (s : Int) (hc_xor (hc_shl 1 i) (-1)) = ((clr s p : Nat) : Int) := by
          rw [e]
          exact b_clr (by omega) (by omega)
        rw [ec]
        refine e_ist (L' := [xR 58, xI o, xI ((s : Nat) : Int), xI i, xI ((clr s p : Nat) : Int)]) rfl rfl rfl ?_
        refine wp_go rfl rfl ?_
        refine e_get rfl H58 rfl rfl ?_
        refine wp_go rfl rfl ?_
        refine wp_go rfl rfl ?_
        refine e_get rfl H58 rfl rfl ?_
        refine wp_go rfl rfl ?_
        refine e_ald rfl H60 rfl (by omega) ?_
        rw [Int.toNat_natCast, u_ne (show clr s p ≠ s by omega)]
        refine wp_go rfl rfl ?_
        refine e_get rfl H58 rfl rfl ?_
        refine wp_go rfl rfl ?_
        refine e_ald rfl H59 rfl (by omega) ?_
        rw [show Int.toNat i = p by omega]
        refine e_iadd rfl (by omega) ?_
        refine e_iast rfl H60 (by omega) ?_
        rw [Int.toNat_natCast, u_u]
        refine wp_go rfl rfl ?_
        refine e_get rfl H58 rfl rfl ?_
        refine wp_go rfl rfl ?_
        refine wp_go rfl rfl ?_
        refine e_get rfl H58 rfl rfl ?_
        refine wp_go rfl rfl ?_
        refine e_ald rfl H61 rfl (by omega) ?_
        rw [Int.toNat_natCast, u_at]
        refine wp_go rfl rfl ?_
        refine e_get rfl H58 rfl rfl ?_
        refine wp_go rfl rfl ?_
        refine e_ald rfl H61 rfl (by omega) ?_
        rw [Int.toNat_natCast, u_ne (show clr s p ≠ s by omega)]
        refine wp_go rfl rfl ?_
        refine e_iast rfl H61 (by omega) ?_
        rw [Int.toNat_natCast, u_u]
        refine e_inc (L' := [xR 58, xI o, xI ((s : Nat) : Int), xI (i + 1), xI ((clr s p : Nat) : Int)]) rfl rfl (by omega) rfl ?_
        refine wp_go rfl rfl ?_
        have e1 : csf bl sm mo s (p + 1) = (sm (clr s p) + bl p, if b < mo (clr s p) then mo (clr s p) else b) := by
          simp only [csf]
          rw [if_pos hb, hm]
        refine ih (p + 1) _ _ _ _ _ (by omega) (by omega) e1 (by omega) (by split <;> omega) H58 H59 rfl rfl ((HF.wr rfl).wr rfl) trivial
