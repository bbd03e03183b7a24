/-! the reference: about -/
set_option maxRecDepth 100000 in
theorem c_mabout {d : Nat} {h : hc_H} {Q : List hc_V → hc_H → Prop} {v : Int} {s A : Nat → Int} {cs : cT} {e : dX} (hs : cOK cs) (H71 : h.2.2 71 = mo s) (H72 : h.2.2 72 = ar 456 A) (H : RA A cs e) (he : e.1 ≤ 20) (ham : ∀ j, j < e.1 → 0 ≤ e.2.2.2.1 j ∧ e.2.2.2.1 j ≤ 720720) (hun : ∀ j, j < e.1 → e.2.1 j ≠ e.2.2.1 j) (k20 : 20 ≤ v ∧ v < 20 + (cs.nf : Int) → Q [xI (cs.sl (Int.toNat (v - 20)))] h) (k30 : 30 ≤ v ∧ v < 30 + (cs.nf : Int) → Q [xI (bal e.2.1 e.2.2.1 e.2.2.2.1 (v - 30) e.1 + 20000000)] h) (k0 : 0 ≤ v ∧ v ≤ 9 → Q [xI (A (Int.toNat v))] h) (k10 : v = 10 → Q [xI (s 4)] h) (kx : ¬ (20 ≤ v ∧ v < 20 + (cs.nf : Int)) → ¬ (30 ≤ v ∧ v < 30 + (cs.nf : Int)) → ¬ (0 ≤ v ∧ v ≤ 9) → v ≠ 10 → Q [xI (-2)] h) : hc_wp (d + 2) mX10_about 0 [xR 71, xI v] [] h Q := by
  have hn8 := hs.1
  refine wp_go rfl rfl ?_
  refine wp_go rfl rfl ?_
  refine wp_go rfl rfl ?_
  refine wp_go rfl rfl ?_
  refine e_get rfl H71 rfl rfl ?_
  refine wp_go rfl rfl ?_
  refine e_aldE (p := 0) rfl H72 rfl ⟨by omega, by omega⟩ ?_
  rw [show A 0 = (cs.nf : Int) from H.1.1]
  refine e_iadd rfl (by omega) ?_
  refine wp_call rfl rfl rfl rfl ?_
  refine c_isIn  (fun q12 => ?_) (fun q12 => ?_)
  · skip
    refine wp_go rfl rfl ?_
    refine wp_go rfl rfl ?_
    refine e_get rfl H71 rfl rfl ?_
    refine wp_go rfl rfl ?_
    refine wp_go rfl rfl ?_
    refine wp_go rfl rfl ?_
    refine wp_go rfl rfl ?_
    refine e_isub rfl (by omega) ?_
    refine e_imul rfl (by omega) ?_
    refine e_iadd rfl (by omega) ?_
    refine wp_go rfl rfl ?_
    refine e_iadd rfl (by omega) ?_
    refine e_aldE (p := 12 + 2 * Int.toNat (v - 20) + 1) rfl H72 rfl ⟨by omega, by omega⟩ ?_
    refine wp_ret rfl rfl ?_
    rw [show 12 + 2 * Int.toNat (v - 20) + 1 = 12 + 2 * Int.toNat (v - 20) + 1 from rfl, (H.2.1 (Int.toNat (v - 20)) (by omega)).2]
    exact k20 (by omega)
  · skip
    refine wp_go rfl rfl ?_
    refine wp_go rfl rfl ?_
    refine wp_go rfl rfl ?_
    refine wp_go rfl rfl ?_
    refine wp_go rfl rfl ?_
    refine e_get rfl H71 rfl rfl ?_
    refine wp_go rfl rfl ?_
    refine e_aldE (p := 0) rfl H72 rfl ⟨by omega, by omega⟩ ?_
    rw [show A 0 = (cs.nf : Int) from H.1.1]
    refine e_iadd rfl (by omega) ?_
    refine wp_call rfl rfl rfl rfl ?_
    refine c_isIn  (fun q47 => ?_) (fun q47 => ?_)
    · skip
      refine wp_go rfl rfl ?_
      refine wp_go rfl rfl ?_
      refine wp_go rfl rfl ?_
      refine wp_go rfl rfl ?_
      refine e_isub rfl (by omega) ?_
      refine wp_cv rfl rfl rfl H71 rfl rfl rfl ?_
      refine c_mbal H71 H72 H he ham hun ?_
      have hbb := bal_bd (dt := e.2.1) (ow := e.2.2.1) (am := e.2.2.2.1) (who := v - 30) e.1 ham
      refine e_ldcw 20000000 rfl rfl ?_
      refine e_iadd rfl (by omega) ?_
      refine wp_ret rfl rfl ?_
      exact k30 (by omega)
    · skip
      refine wp_go rfl rfl ?_
      refine wp_go rfl rfl ?_
      refine wp_go rfl rfl ?_
      refine wp_go rfl rfl ?_
      refine wp_call rfl rfl rfl rfl ?_
      refine c_isIn  (fun q70 => ?_) (fun q70 => ?_)
      · skip
        refine wp_go rfl rfl ?_
        refine wp_go rfl rfl ?_
        refine e_get rfl H71 rfl rfl ?_
        refine wp_go rfl rfl ?_
        refine e_aldE (p := Int.toNat v) rfl H72 rfl ⟨by omega, by omega⟩ ?_
        refine wp_go rfl rfl ?_
        refine wp_ret rfl rfl ?_
        exact k0 (by omega)
      · skip
        refine wp_go rfl rfl ?_
        refine wp_go rfl rfl ?_
        refine wp_go rfl rfl ?_
        refine e_cne rfl (fun c88 => ?_) (fun c88 => ?_)
        · skip
          refine wp_go rfl rfl ?_
          refine wp_ret rfl rfl ?_
          exact kx (by omega) (by omega) (by omega) (by omega)
        · skip
          refine wp_go rfl rfl ?_
          refine e_get rfl H71 rfl rfl ?_
          refine wp_go rfl rfl ?_
          refine wp_ret rfl rfl ?_
          exact k10 (by omega)
