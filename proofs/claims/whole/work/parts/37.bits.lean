/-! the lowest one of a set, and how many it holds -/
def tz (s : Nat) : Nat := if Nat.testBit s 0 = true then 0 else if Nat.testBit s 1 = true then 1 else if Nat.testBit s 2 = true then 2 else if Nat.testBit s 3 = true then 3 else if Nat.testBit s 4 = true then 4 else if Nat.testBit s 5 = true then 5 else if Nat.testBit s 6 = true then 6 else 7
def pcn (s : Nat) : Nat := (Nat.testBit s 0).toNat + (Nat.testBit s 1).toNat + (Nat.testBit s 2).toNat + (Nat.testBit s 3).toNat + (Nat.testBit s 4).toNat + (Nat.testBit s 5).toNat + (Nat.testBit s 6).toNat + (Nat.testBit s 7).toNat
def ze (s : Nat) : Int := hc_and (hc_xor (s : Int) (-1)) ((s : Int) - 1)
theorem tz_bd (s : Nat) : tz s ≤ 7 := by
  unfold tz
  repeat' split
  all_goals omega
theorem ze' : ∀ s : Fin 256, 1 ≤ s.1 → (0 ≤ ze s.1 ∧ ze s.1 ≤ 127) ∧ (ze s.1 ≤ 0 → hc_and (ze s.1) 32 = ((tz s.1 : Nat) : Int)) ∧ (0 < ze s.1 → ze s.1 ≤ 16 → ze s.1 ≤ 4 → 1 + hc_ushr (ze s.1) 1 = ((tz s.1 : Nat) : Int)) ∧ (ze s.1 ≤ 16 → 4 < ze s.1 → 1 + 2 + hc_ushr (hc_ushr (ze s.1) 2) 1 = ((tz s.1 : Nat) : Int)) ∧ (16 < ze s.1 → hc_ushr (ze s.1) 4 ≤ 4 → 1 + 4 + hc_ushr (hc_ushr (ze s.1) 4) 1 = ((tz s.1 : Nat) : Int)) ∧ (16 < ze s.1 → 4 < hc_ushr (ze s.1) 4 → 1 + 4 + 2 + hc_ushr (hc_ushr (hc_ushr (ze s.1) 4) 2) 1 = ((tz s.1 : Nat) : Int)) := by decide +kernel
def p1 (s : Nat) : Int := (s : Int) - hc_and (hc_ushr (s : Int) 1) 1431655765
def p2 (s : Nat) : Int := hc_and (p1 s) 858993459 + hc_and (hc_ushr (p1 s) 2) 858993459
def p3 (s : Nat) : Int := hc_and (p2 s + hc_ushr (p2 s) 4) 252645135
def p4 (s : Nat) : Int := p3 s + hc_ushr (p3 s) 8
def p5 (s : Nat) : Int := p4 s + hc_ushr (p4 s) 16
theorem pc' : ∀ s : Fin 256, (0 ≤ p1 s.1 ∧ p1 s.1 ≤ 1000) ∧ (0 ≤ p2 s.1 ∧ p2 s.1 ≤ 1000) ∧ (0 ≤ p2 s.1 + hc_ushr (p2 s.1) 4 ∧ p2 s.1 + hc_ushr (p2 s.1) 4 ≤ 1000) ∧ (0 ≤ p4 s.1 ∧ p4 s.1 ≤ 1000) ∧ (0 ≤ p5 s.1 ∧ p5 s.1 ≤ 1000) ∧ hc_and (p5 s.1) 63 = ((pcn s.1 : Nat) : Int) := by decide +kernel
set_option maxRecDepth 100000 in
theorem c_ctz {d : Nat} {h : hc_H} {Q : List hc_V → hc_H → Prop} {s : Nat} (h1 : 1 ≤ s) (hs : s < 256) (k : Q [xI ((tz s : Nat) : Int)] h) : hc_wp d mJ6_numberOfTrailingZeros_0f7a4 0 [xI (s : Int), none] [] h Q := by
  refine wp_go rfl rfl ?_
  refine wp_go rfl rfl ?_
  refine wp_go rfl rfl ?_
  refine wp_go rfl rfl ?_
  refine wp_go rfl rfl ?_
  refine e_isub rfl (by omega) ?_
  refine wp_go rfl rfl ?_
  refine e_istn (L' := [xI (hc_and (hc_xor (s : Int) (-1)) ((s : Int) - 1)), none]) rfl rfl rfl ?_
  obtain ⟨e, he⟩ : ∃ z : Int, z = ze s := ⟨_, rfl⟩
  have hT := ze' ⟨s, hs⟩ h1
  dsimp only at hT
  rw [← he] at hT
  show hc_wp d mJ6_numberOfTrailingZeros_0f7a4 8 [xI (ze s), none] [] h Q
  rw [← he]
  refine wp_go rfl rfl ?_
  refine e_ifgt rfl (fun c9 => ?_) (fun c9 => ?_)
  · skip
    refine wp_go rfl rfl ?_
    refine e_istn (L' := [xI e, xI 1]) rfl rfl rfl ?_
    refine wp_go rfl rfl ?_
    refine e_ldcw 65536 rfl rfl ?_
    refine e_cle rfl (fun c23 => ?_) (fun c23 => absurd c23 (by omega))
    refine wp_go rfl rfl ?_
    refine wp_go rfl rfl ?_
    refine e_cle rfl (fun c38 => ?_) (fun c38 => absurd c38 (by omega))
    refine wp_go rfl rfl ?_
    refine wp_go rfl rfl ?_
    refine e_cle rfl (fun c52 => ?_) (fun c52 => ?_)
    · skip
      refine wp_go rfl rfl ?_
      refine wp_go rfl rfl ?_
      refine e_cle rfl (fun c64 => ?_) (fun c64 => ?_)
      · skip
        have ez := hT.2.2.1 (by omega) (by omega) (by omega)
        have hb := tz_bd s
        refine wp_go rfl rfl ?_
        refine wp_go rfl rfl ?_
        refine wp_go rfl rfl ?_
        refine wp_go rfl rfl ?_
        refine e_iadd rfl (by omega) ?_
        refine wp_ret rfl rfl ?_
        rw [ez]
        exact k
      · skip
        refine e_inc (L' := [xI e, xI (1 + 2)]) rfl rfl (by omega) rfl ?_
        refine wp_go rfl rfl ?_
        refine wp_go rfl rfl ?_
        refine wp_go rfl rfl ?_
        refine e_istn (L' := [xI (hc_ushr e 2), xI (1 + 2)]) rfl rfl rfl ?_
        have ez := hT.2.2.2.1 (by omega) (by omega)
        have hb := tz_bd s
        refine wp_go rfl rfl ?_
        refine wp_go rfl rfl ?_
        refine wp_go rfl rfl ?_
        refine wp_go rfl rfl ?_
        refine e_iadd rfl (by omega) ?_
        refine wp_ret rfl rfl ?_
        rw [ez]
        exact k
    · skip
      refine e_inc (L' := [xI e, xI (1 + 4)]) rfl rfl (by omega) rfl ?_
      refine wp_go rfl rfl ?_
      refine wp_go rfl rfl ?_
      refine wp_go rfl rfl ?_
      refine e_istn (L' := [xI (hc_ushr e 4), xI (1 + 4)]) rfl rfl rfl ?_
      refine wp_go rfl rfl ?_
      refine wp_go rfl rfl ?_
      refine e_cle rfl (fun c64 => ?_) (fun c64 => ?_)
      · skip
        have ez := hT.2.2.2.2.1 (by omega) (by omega)
        have hb := tz_bd s
        refine wp_go rfl rfl ?_
        refine wp_go rfl rfl ?_
        refine wp_go rfl rfl ?_
        refine wp_go rfl rfl ?_
        refine e_iadd rfl (by omega) ?_
        refine wp_ret rfl rfl ?_
        rw [ez]
        exact k
      · skip
        refine e_inc (L' := [xI (hc_ushr e 4), xI ((1 + 4) + 2)]) rfl rfl (by omega) rfl ?_
        refine wp_go rfl rfl ?_
        refine wp_go rfl rfl ?_
        refine wp_go rfl rfl ?_
        refine e_istn (L' := [xI (hc_ushr (hc_ushr e 4) 2), xI ((1 + 4) + 2)]) rfl rfl rfl ?_
        have ez := hT.2.2.2.2.2 (by omega) (by omega)
        have hb := tz_bd s
        refine wp_go rfl rfl ?_
        refine wp_go rfl rfl ?_
        refine wp_go rfl rfl ?_
        refine wp_go rfl rfl ?_
        refine e_iadd rfl (by omega) ?_
        refine wp_ret rfl rfl ?_
        rw [ez]
        exact k
  · skip
    refine wp_go rfl rfl ?_
    refine wp_go rfl rfl ?_
    refine wp_go rfl rfl ?_
    refine wp_ret rfl rfl ?_
    rw [hT.2.1 (by omega)]
    exact k
set_option maxRecDepth 100000 in
theorem c_bitCount {d : Nat} {h : hc_H} {Q : List hc_V → hc_H → Prop} {s : Nat} (hs : s < 256) (k : Q [xI ((pcn s : Nat) : Int)] h) : hc_wp d mJ6_bitCount_0f7a4 0 [xI (s : Int)] [] h Q := by
  have hP := pc' ⟨s, hs⟩
  dsimp only at hP
  refine wp_go rfl rfl ?_
  refine wp_go rfl rfl ?_
  refine wp_go rfl rfl ?_
  refine wp_go rfl rfl ?_
  refine e_ldcw 1431655765 rfl rfl ?_
  refine wp_go rfl rfl ?_
  refine e_isub rfl (show -2147483648 ≤ p1 s ∧ p1 s ≤ 2147483647 by omega) ?_
  refine e_istn (L' := [xI ((s : Int) - (hc_and (hc_ushr (s : Int) 1) 1431655765))]) rfl rfl rfl ?_
  show hc_wp d mJ6_bitCount_0f7a4 10 [xI (p1 s)] [] h Q
  refine wp_go rfl rfl ?_
  refine e_ldcw 858993459 rfl rfl ?_
  refine wp_go rfl rfl ?_
  refine wp_go rfl rfl ?_
  refine wp_go rfl rfl ?_
  refine wp_go rfl rfl ?_
  refine e_ldcw 858993459 rfl rfl ?_
  refine wp_go rfl rfl ?_
  refine e_iadd rfl (show -2147483648 ≤ p2 s ∧ p2 s ≤ 2147483647 by omega) ?_
  refine e_istn (L' := [xI ((hc_and (p1 s) 858993459) + (hc_and (hc_ushr (p1 s) 2) 858993459))]) rfl rfl rfl ?_
  show hc_wp d mJ6_bitCount_0f7a4 24 [xI (p2 s)] [] h Q
  refine wp_go rfl rfl ?_
  refine wp_go rfl rfl ?_
  refine wp_go rfl rfl ?_
  refine wp_go rfl rfl ?_
  refine e_iadd rfl (by omega) ?_
  refine e_ldcw 252645135 rfl rfl ?_
  refine wp_go rfl rfl ?_
  refine e_istn (L' := [xI (hc_and ((p2 s) + (hc_ushr (p2 s) 4)) 252645135)]) rfl rfl rfl ?_
  show hc_wp d mJ6_bitCount_0f7a4 34 [xI (p3 s)] [] h Q
  refine wp_go rfl rfl ?_
  refine wp_go rfl rfl ?_
  refine wp_go rfl rfl ?_
  refine wp_go rfl rfl ?_
  refine e_iadd rfl (show -2147483648 ≤ p4 s ∧ p4 s ≤ 2147483647 by omega) ?_
  refine e_istn (L' := [xI ((p3 s) + (hc_ushr (p3 s) 8))]) rfl rfl rfl ?_
  show hc_wp d mJ6_bitCount_0f7a4 41 [xI (p4 s)] [] h Q
  refine wp_go rfl rfl ?_
  refine wp_go rfl rfl ?_
  refine wp_go rfl rfl ?_
  refine wp_go rfl rfl ?_
  refine e_iadd rfl (show -2147483648 ≤ p5 s ∧ p5 s ≤ 2147483647 by omega) ?_
  refine e_istn (L' := [xI ((p4 s) + (hc_ushr (p4 s) 16))]) rfl rfl rfl ?_
  show hc_wp d mJ6_bitCount_0f7a4 48 [xI (p5 s)] [] h Q
  refine wp_go rfl rfl ?_
  refine wp_go rfl rfl ?_
  refine wp_go rfl rfl ?_
  refine wp_ret rfl rfl ?_
  rw [hP.2.2.2.2.2]
  exact k
