/-! the reference: sums of sets -/
def smb (bl : Nat → Int) (S : Nat) : Nat → Int
  | 0 => 0
  | p + 1 => smb bl S p + (if Nat.testBit S p = true then bl p else 0)
theorem smb_bd {bl : Nat → Int} {S : Nat} (hb : ∀ p, p < 8 → -14414400 ≤ bl p ∧ bl p ≤ 14414400) : ∀ n : Nat, n ≤ 8 → -14414400 * (n : Int) ≤ smb bl S n ∧ smb bl S n ≤ 14414400 * (n : Int)
  | 0, _ => by simp [smb]
  | n + 1, h => by
    have a := smb_bd (S := S) hb n (by omega)
    have b := hb n (by omega)
    simp only [smb]
    split <;> omega
set_option maxRecDepth 100000 in
theorem l_mnet2 {d : Nat} {h0 : hc_H} {Q : List hc_V → hc_H → Prop} {S : Nat} {os : Int} {s B M : Nat → Int} (hS : S < 256) (hb : ∀ p, p < 8 → -14414400 ≤ B p ∧ B p ≤ 14414400) (k : ∀ h2 j2, h2.2.2 71 = mo s → h2.2.2 80 = ar 8 B → h2.2.2 81 = ar 256 (hc_u M S (smb B S 8)) → Fr [81] h0 h2 → hc_wp (d + 3) mX10_net 117 [xR 71, xI os, xI (S : Int), j2] [] h2 Q) : ∀ (n j : Nat) (h : hc_H), (j ≤ 8 ∧ 8 < j + n) → h.2.2 71 = mo s → h.2.2 80 = ar 8 B → h.2.2 81 = ar 256 (hc_u M S (smb B S j)) → Fr [81] h0 h → hc_wp (d + 3) mX10_net 78 [xR 71, xI os, xI (S : Int), xI (j : Int)] [] h Q := by
  intro n
  induction n with
  | zero =>
    intro j h hj
    exact absurd hj (by omega)
  | succ n ih =>
    intro j h hj H71 H80 H81 HF
    refine wp_go rfl rfl ?_
    refine wp_go rfl rfl ?_
    refine e_cge rfl (fun c81 => ?_) (fun c81 => ?_)
    · skip
      rw [show j = 8 by omega] at H81 ⊢
      exact k h _ H71 H80 H81 HF
    · skip
      have hsb := smb_bd (S := S) hb j (by omega)
      have hbj := hb j (by omega)
      refine wp_go rfl rfl ?_
      refine e_get rfl H71 rfl rfl ?_
      refine wp_go rfl rfl ?_
      refine wp_go rfl rfl ?_
      refine e_aldE (p := S) rfl H81 rfl ⟨by omega, by omega⟩ ?_
      rw [hu_s]
      refine wp_go rfl rfl ?_
      refine wp_go rfl rfl ?_
      refine wp_call rfl rfl rfl rfl ?_
      refine c_mhas (s := S) (p := j) hS (by omega)  (fun q93 => ?_) (fun q93 => ?_)
      · skip
        refine wp_go rfl rfl ?_
        refine wp_go rfl rfl ?_
        refine e_get rfl H71 rfl rfl ?_
        refine wp_go rfl rfl ?_
        refine e_aldE (p := j) rfl H80 rfl ⟨by omega, by omega⟩ ?_
        refine wp_go rfl rfl ?_
        refine e_iadd rfl (by omega) ?_
        refine e_iastE (p := S) rfl H81 ⟨by omega, by omega⟩ ?_
        refine e_inc (L' := [xR 71, xI os, xI (S : Int), xI ((j : Int) + 1)]) rfl rfl (by omega) rfl ?_
        refine wp_go rfl rfl ?_
        have hst : smb B S (j + 1) = smb B S j + B j := by rw [smb, if_pos q93]
        rw [hu_u, ← hst]
        exact ih (j + 1) _ (by omega) H71 H80 rfl (HF.wr rfl)
      · skip
        refine wp_go rfl rfl ?_
        refine wp_go rfl rfl ?_
        refine e_iadd rfl (by omega) ?_
        refine e_iastE (p := S) rfl H81 ⟨by omega, by omega⟩ ?_
        refine e_inc (L' := [xR 71, xI os, xI (S : Int), xI ((j : Int) + 1)]) rfl rfl (by omega) rfl ?_
        refine wp_go rfl rfl ?_
        have hst : smb B S (j + 1) = smb B S j + 0 := by rw [smb, if_neg (by rw [q93]; decide)]
        rw [hu_u, ← hst]
        exact ih (j + 1) _ (by omega) H71 H80 rfl (HF.wr rfl)
