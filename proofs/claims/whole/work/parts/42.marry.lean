/-! the class: Marrying, fifth part: the partners -/
def pst (ch : Nat → Int) (p : Nat) (r : Nat × (Nat → Int)) : Nat × (Nat → Int) := if Nat.testBit r.1 p = true then (clr (clr r.1 (Int.toNat (ch r.1))) p, hc_u (hc_u r.2 p (ch r.1)) (Int.toNat (ch r.1)) (p : Int)) else r
def pit (ch : Nat → Int) (ev : Nat) (pt : Nat → Int) : Nat → Nat × (Nat → Int)
  | 0 => (ev, pt)
  | n + 1 => pst ch n (pit ch ev pt n)
theorem bit_pos {s p : Nat} (h : Nat.testBit s p = true) : 1 ≤ s := by
  rcases Nat.eq_zero_or_pos s with c | c
  · rw [c, Nat.zero_testBit] at h
    exact absurd h (by decide)
  · exact c
set_option maxRecDepth 100000 in
theorem l_part {d : Nat} {h0 : hc_H} {Q : List hc_V → hc_H → Prop} {al ev : Nat} {tg fk : Int} {ch pt : Nat → Int} (hal : al ≤ 8) (hev : ev < 256) (HC : ∀ t, 1 ≤ t → t < ev + 1 → 0 ≤ ch t ∧ ch t < 8) (k : ∀ h2 sg2 pt3, (sg2, pt3) = pit ch ev pt al → h2.2.2 69 = ar 8 pt3 → Fr [69] h0 h2 → Q [] h2) : ∀ (n p sg : Nat) (pt2 : Nat → Int) (i : Int) (l7 : hc_V) (h : hc_H), i = (p : Int) → (p ≤ al ∧ al < p + n) → sg ≤ ev → pit ch ev pt p = (sg, pt2) → h.2.2 65 = mar tg → h.2.2 68 = ar 256 ch → h.2.2 69 = ar 8 pt2 → Fr [69] h0 h → True → hc_wp (d + 2) mX1_work 80 [xR 65, xR 27, xI fk, xI (al : Int), xI (ev : Int), xI (sg : Int), xI i, l7] [] h Q := by
  intro n
  induction n with
  | zero =>
    intro p sg pt2 i l7 h e hn
    exact absurd hn (by omega)
  | succ n ih =>
    intro p sg pt2 i l7 h e hn hsg hm H65 H68 H69 HF hn2
    refine wp_go rfl rfl ?_
    refine wp_go rfl rfl ?_
    refine e_cge rfl (fun c83 => ?_) (fun c83 => ?_)
    · skip
      refine wp_ret rfl rfl ?_
      rw [show p = al by omega] at hm
      exact k h sg pt2 hm.symm H69 HF
    · skip
      refine wp_go rfl rfl ?_
      refine wp_go rfl rfl ?_
      refine wp_go rfl rfl ?_
      refine wp_go rfl rfl ?_
      refine wp_go rfl rfl ?_
      have eb : hc_and (hc_shr (sg : Int) i) 1 = if Nat.testBit sg p = true then 1 else 0 := by
        rw [e]
        exact b_test (by omega) (by omega)
      rw [eb]
      refine wp_go rfl rfl ?_
      refine e_cne rfl (fun c94 => ?_) (fun c94 => ?_)
      · skip
        refine e_inc (L' := [xR 65, xR 27, xI fk, xI (al : Int), xI (ev : Int), xI (sg : Int), xI (i + 1), l7]) rfl rfl (by omega) rfl ?_
        refine wp_go rfl rfl ?_
        have e1 : pit ch ev pt (p + 1) = (sg, pt2) := by
          simp only [pit]
          rw [hm]
          unfold pst
          dsimp only
          rw [if_neg (fun z => c94 (by rw [if_pos z]))]
        refine ih (p + 1) _ _ _ _ _ (by omega) (by omega) (by omega) e1 H65 H68 H69 HF trivial
      · skip
        have hb : Nat.testBit sg p = true := by
          by_cases z : Nat.testBit sg p = true
          · exact z
          · rw [if_neg z] at c94
            exact absurd c94 (by omega)
        have hp1 := bit_pos hb
        have hco := HC sg hp1 (by omega)
        refine wp_go rfl rfl ?_
        refine e_get rfl H65 rfl rfl ?_
        refine wp_go rfl rfl ?_
        refine e_ald rfl H68 rfl (by omega) ?_
        refine e_ist (L' := [xR 65, xR 27, xI fk, xI (al : Int), xI (ev : Int), xI (sg : Int), xI i, xI (ch (Int.toNat (sg : Int)))]) rfl rfl rfl ?_
        rw [Int.toNat_natCast]
        obtain ⟨on, hon⟩ : ∃ z : Nat, ch sg = (z : Int) := ⟨Int.toNat (ch sg), by omega⟩
        rw [hon] at hco ⊢
        have hc1 := (clr_lt (s := sg) (p := on) (by omega) (by omega)).1
        have hc2 := (clr_lt (s := clr sg on) (p := p) (by omega) (by omega)).1
        refine wp_go rfl rfl ?_
        refine e_get rfl H65 rfl rfl ?_
        refine wp_go rfl rfl ?_
        refine wp_go rfl rfl ?_
        refine e_iast rfl H69 (by omega) ?_
        rw [show Int.toNat i = p by omega]
        refine wp_go rfl rfl ?_
        refine e_iflt rfl (fun c117 => absurd c117 (by omega)) (fun c117 => ?_)
        refine wp_go rfl rfl ?_
        refine wp_go rfl rfl ?_
        refine e_cge rfl (fun c124 => absurd c124 (by omega)) (fun c124 => ?_)
        refine wp_go rfl rfl ?_
        refine e_get rfl H65 rfl rfl ?_
        refine wp_go rfl rfl ?_
        refine wp_go rfl rfl ?_
        refine e_iast rfl rfl (by omega) ?_
        rw [Int.toNat_natCast]
        refine wp_go rfl rfl ?_
        refine wp_go rfl rfl ?_
        refine wp_go rfl rfl ?_
        refine wp_go rfl rfl ?_
        refine wp_go rfl rfl ?_
        refine wp_go rfl rfl ?_
        refine wp_go rfl rfl ?_
        rw [b_clr (by omega) (by omega)]
        refine e_ist (L' := [xR 65, xR 27, xI fk, xI (al : Int), xI (ev : Int), xI ((clr sg on : Nat) : Int), xI i, xI (on : Int)]) rfl rfl rfl ?_
        refine wp_go rfl rfl ?_
        refine wp_go rfl rfl ?_
        refine wp_go rfl rfl ?_
        refine wp_go rfl rfl ?_
        refine wp_go rfl rfl ?_
        refine wp_go rfl rfl ?_
        refine wp_go rfl rfl ?_
        have ec : hc_and ((clr sg on : Nat) : Int) (hc_xor (hc_shl 1 i) (-1)) = ((clr (clr sg on) p : Nat) : Int) := by
          rw [e]
          exact b_clr (by omega) (by omega)
        rw [ec]
        refine e_ist (L' := [xR 65, xR 27, xI fk, xI (al : Int), xI (ev : Int), xI ((clr (clr sg on) p : Nat) : Int), xI i, xI (on : Int)]) rfl rfl rfl ?_
        refine e_inc (L' := [xR 65, xR 27, xI fk, xI (al : Int), xI (ev : Int), xI ((clr (clr sg on) p : Nat) : Int), xI (i + 1), xI (on : Int)]) rfl rfl (by omega) rfl ?_
        refine wp_go rfl rfl ?_
        have e1 : pit ch ev pt (p + 1) = (clr (clr sg on) p, hc_u (hc_u pt2 p (on : Int)) on i) := by
          simp only [pit]
          rw [hm]
          unfold pst
          dsimp only
          rw [if_pos hb, hon, Int.toNat_natCast, e]
        refine ih (p + 1) _ _ _ _ _ (by omega) (by omega) (by omega) e1 H65 H68 rfl ((HF.wr rfl).wr rfl) trivial
