/-! the reference: all sums of sets -/
set_option maxRecDepth 100000 in
theorem l_mnet3 {d : Nat} {h0 : hc_H} {Q : List hc_V → hc_H → Prop} {os : Int} {s B : Nat → Int} (hb : ∀ p, p < 8 → -14414400 ≤ B p ∧ B p ≤ 14414400) (k : ∀ h2 M2 i2 l3, (∀ q, q < 256 → M2 q = smb B q 8) → h2.2.2 71 = mo s → h2.2.2 80 = ar 8 B → h2.2.2 81 = ar 256 M2 → Fr [81] h0 h2 → hc_wp (d + 3) mX10_net 123 [xR 71, xI os, i2, l3] [] h2 Q) : ∀ (n i : Nat) (l3 : hc_V) (M : Nat → Int) (h : hc_H), (i ≤ 256 ∧ 256 < i + n) → (∀ q, q < i → M q = smb B q 8) → h.2.2 71 = mo s → h.2.2 80 = ar 8 B → h.2.2 81 = ar 256 M → Fr [81] h0 h → hc_wp (d + 3) mX10_net 62 [xR 71, xI os, xI (i : Int), l3] [] h Q := by
  intro n
  induction n with
  | zero =>
    intro i l3 M h hj
    exact absurd hj (by omega)
  | succ n ih =>
    intro i l3 M h hj HM H71 H80 H81 HF
    refine wp_go rfl rfl ?_
    refine wp_go rfl rfl ?_
    refine e_cge rfl (fun c66 => ?_) (fun c66 => ?_)
    · skip
      rw [show i = 256 by omega] at HM
      exact k h M _ _ HM H71 H80 H81 HF
    · skip
      refine wp_go rfl rfl ?_
      refine e_get rfl H71 rfl rfl ?_
      refine wp_go rfl rfl ?_
      refine wp_go rfl rfl ?_
      refine e_iastE (p := i) rfl H81 ⟨by omega, by omega⟩ ?_
      refine wp_go rfl rfl ?_
      refine e_istn (L' := [xR 71, xI os, xI (i : Int), xI 0]) rfl rfl rfl ?_
      refine l_mnet2 (d := d) (M := M) (B := B) (S := i) (h0 := h0) (by omega) hb (fun h2 j2 A71 A80 A81 F2 => ?_) 9 0 _ (by omega) H71 H80 rfl (HF.wr rfl)
      refine e_inc (L' := [xR 71, xI os, xI ((i : Int) + 1), j2]) rfl rfl (by omega) rfl ?_
      refine wp_go rfl rfl ?_
      exact ih (i + 1) _ _ _ (by omega) (fun q hq => by
        by_cases c : q = i
        · rw [c, hu_s]
        · rw [hu_n c]
          exact HM q (by omega)) A71 A80 A81 F2
