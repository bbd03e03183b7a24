/-! the reference: balances and who has one -/
theorem b_or0' : ∀ s : Fin 256, hc_or (s.1 : Int) 0 = (s.1 : Int) := by decide +kernel
theorem b_or0 {s : Nat} (hs : s < 256) : hc_or (s : Int) 0 = (s : Int) := b_or0' ⟨s, hs⟩
def BLE (e : dX) (nf : Nat) (p : Nat) : Int := blv e.2.1 e.2.2.1 e.2.2.2.1 e.1 nf p
set_option maxRecDepth 100000 in
theorem l_mnet1 {d : Nat} {h0 : hc_H} {Q : List hc_V → hc_H → Prop} {s A : Nat → Int} {cs : cT} {e : dX} (hs : cOK cs) (H : RA A cs e) (he : e.1 ≤ 20) (ham : ∀ j, j < e.1 → 0 ≤ e.2.2.2.1 j ∧ e.2.2.2.1 j ≤ 720720) (hun : ∀ j, j < e.1 → e.2.1 j ≠ e.2.2.1 j) (k : ∀ h2 B2 i2 l3, (∀ p, p < 8 → B2 p = BLE e cs.nf p) → h2.2.2 71 = mo s → h2.2.2 72 = ar 456 A → h2.2.2 80 = ar 8 B2 → Fr [80] h0 h2 → hc_wp (d + 3) mX10_net 60 [xR 71, xI ((opm (BLE e cs.nf) 8 : Nat) : Int), i2, l3] [] h2 Q) : ∀ (n j : Nat) (l3 : hc_V) (B : Nat → Int) (h : hc_H), (j ≤ 8 ∧ 8 < j + n) → (∀ p, p < j → B p = BLE e cs.nf p) → h.2.2 71 = mo s → h.2.2 72 = ar 456 A → h.2.2 80 = ar 8 B → Fr [80] h0 h → hc_wp (d + 3) mX10_net 4 [xR 71, xI ((opm (BLE e cs.nf) j : Nat) : Int), xI (j : Int), l3] [] h Q := by
  have hn8 := hs.1
  intro n
  induction n with
  | zero =>
    intro j l3 B h hj
    exact absurd hj (by omega)
  | succ n ih =>
    intro j l3 B h hj HB H71 H72 H80 HF
    refine wp_go rfl rfl ?_
    refine wp_go rfl rfl ?_
    refine e_cge rfl (fun c7 => ?_) (fun c7 => ?_)
    · skip
      rw [show j = 8 by omega] at HB ⊢
      exact k h B _ _ HB H71 H72 H80 HF
    · skip
      refine wp_go rfl rfl ?_
      refine e_get rfl H71 rfl rfl ?_
      refine wp_go rfl rfl ?_
      refine wp_go rfl rfl ?_
      refine wp_go rfl rfl ?_
      refine e_get rfl H71 rfl rfl ?_
      refine wp_go rfl rfl ?_
      refine e_aldE (p := 0) rfl H72 rfl ⟨by omega, by omega⟩ ?_
      rw [show A 0 = (cs.nf : Int) from H.1.1]
      refine e_cge rfl (fun c22 => ?_) (fun c22 => ?_)
      · skip
        refine wp_go rfl rfl ?_
        have hz0 : BLE e cs.nf j = 0 := if_neg (by omega)
        refine e_iastE (p := j) rfl H80 ⟨by omega, by omega⟩ ?_
        refine wp_go rfl rfl ?_
        refine wp_go rfl rfl ?_
        refine e_get rfl H71 rfl rfl ?_
        refine wp_go rfl rfl ?_
        refine e_aldE (p := j) rfl rfl rfl ⟨by omega, by omega⟩ ?_
        rw [hu_s]
        refine wp_go rfl rfl ?_
        refine wp_go rfl rfl ?_
        refine wp_go rfl rfl ?_
        rw [b_or0 (opm_lt j (by omega))]
        refine e_istn (L' := [xR 71, xI ((opm (BLE e cs.nf) j : Nat) : Int), xI (j : Int), l3]) rfl rfl rfl ?_
        refine e_inc (L' := [xR 71, xI ((opm (BLE e cs.nf) j : Nat) : Int), xI ((j : Int) + 1), l3]) rfl rfl (by omega) rfl ?_
        refine wp_go rfl rfl ?_
        have hop : opm (BLE e cs.nf) (j + 1) = opm (BLE e cs.nf) j := if_pos (by omega)
        rw [← hop]
        refine ih (j + 1) _ _ _ (by omega) (fun p hp => ?_) H71 H72 rfl (HF.wr rfl)
        by_cases z : p = j
        · rw [z, hu_s]; exact hz0.symm
        · rw [hu_n z]
          exact HB p (by omega)
      · skip
        refine wp_go rfl rfl ?_
        refine wp_go rfl rfl ?_
        refine wp_cv rfl rfl rfl H71 rfl rfl rfl ?_
        refine c_mbal H71 H72 H he ham hun ?_
        rw [show bal e.2.1 e.2.2.1 e.2.2.2.1 (j : Int) e.1 = BLE e cs.nf j from (if_pos (by omega)).symm]
        refine wp_go rfl rfl ?_
        refine e_iastE (p := j) rfl H80 ⟨by omega, by omega⟩ ?_
        refine wp_go rfl rfl ?_
        refine wp_go rfl rfl ?_
        refine e_get rfl H71 rfl rfl ?_
        refine wp_go rfl rfl ?_
        refine e_aldE (p := j) rfl rfl rfl ⟨by omega, by omega⟩ ?_
        rw [hu_s]
        refine e_ifeq rfl (fun c42 => ?_) (fun c42 => ?_)
        · skip
          refine wp_go rfl rfl ?_
          refine wp_go rfl rfl ?_
          rw [b_or0 (opm_lt j (by omega))]
          refine e_istn (L' := [xR 71, xI ((opm (BLE e cs.nf) j : Nat) : Int), xI (j : Int), l3]) rfl rfl rfl ?_
          refine e_inc (L' := [xR 71, xI ((opm (BLE e cs.nf) j : Nat) : Int), xI ((j : Int) + 1), l3]) rfl rfl (by omega) rfl ?_
          refine wp_go rfl rfl ?_
          have hop : opm (BLE e cs.nf) (j + 1) = opm (BLE e cs.nf) j := if_pos (by omega)
          rw [← hop]
          refine ih (j + 1) _ _ _ (by omega) (fun p hp => ?_) H71 H72 rfl (HF.wr rfl)
          by_cases z : p = j
          · rw [z, hu_s]
          · rw [hu_n z]
            exact HB p (by omega)
        · skip
          refine wp_go rfl rfl ?_
          refine wp_go rfl rfl ?_
          refine wp_go rfl rfl ?_
          refine wp_go rfl rfl ?_
          refine wp_go rfl rfl ?_
          rw [b_sbt (opm_lt j (by omega)) (by omega)]
          refine e_istn (L' := [xR 71, xI ((sbt (opm (BLE e cs.nf) j) j : Nat) : Int), xI (j : Int), l3]) rfl rfl rfl ?_
          refine e_inc (L' := [xR 71, xI ((sbt (opm (BLE e cs.nf) j) j : Nat) : Int), xI ((j : Int) + 1), l3]) rfl rfl (by omega) rfl ?_
          refine wp_go rfl rfl ?_
          have hop : opm (BLE e cs.nf) (j + 1) = sbt (opm (BLE e cs.nf) j) j := if_neg (by omega)
          rw [← hop]
          refine ih (j + 1) _ _ _ (by omega) (fun p hp => ?_) H71 H72 rfl (HF.wr rfl)
          by_cases z : p = j
          · rw [z, hu_s]
          · rw [hu_n z]
            exact HB p (by omega)
