/-! the class: Netting, first part: one payment -/
abbrev net (pn : Int) : hc_E := .inr (2, [xR 59, xR 60, xR 61, xR 62, xR 63, xR 64, xI pn])
set_option maxRecDepth 100000 in
theorem c_settle {d : Nat} {h : hc_H} {Q : List hc_V → hc_H → Prop} {a b v pn : Int} {py pe am : Nat → Int} (H58 : h.2.2 58 = net pn) (H62 : h.2.2 62 = ar 8 py) (H63 : h.2.2 63 = ar 8 pe) (H64 : h.2.2 64 = ar 8 am) (hp : 0 ≤ pn ∧ pn ≤ 8) (hv : -1000000000 ≤ v ∧ v ≤ 1000000000) (kn : pn = 8 → Q [] h) (ky : pn < 8 → ∀ h2, h2.2.2 58 = net (pn + 1) → h2.2.2 62 = ar 8 (hc_u py (Int.toNat pn) (if v < 0 then a else b)) → h2.2.2 63 = ar 8 (hc_u pe (Int.toNat pn) (if v < 0 then b else a)) → h2.2.2 64 = ar 8 (hc_u am (Int.toNat pn) (if 0 ≤ v then v else 0 - v)) → Fr [58, 62, 63, 64] h h2 → Q [] h2) : hc_wp (d + 1) mX2_settle 0 [xR 58, xI a, xI b, xI v] [] h Q := by
  refine wp_go rfl rfl ?_
  refine e_get rfl H58 rfl rfl ?_
  refine e_iflt rfl (fun c4 => absurd c4 (by omega)) (fun c4 => ?_)
  refine wp_go rfl rfl ?_
  refine e_get rfl H58 rfl rfl ?_
  refine wp_go rfl rfl ?_
  refine e_clt rfl (fun c13 => ?_) (fun c13 => ?_)
  · skip
    refine wp_go rfl rfl ?_
    refine e_get rfl H58 rfl rfl ?_
    refine wp_go rfl rfl ?_
    refine e_get rfl H58 rfl rfl ?_
    refine wp_go rfl rfl ?_
    refine e_ifge rfl (fun c26 => ?_) (fun c26 => ?_)
    · skip
      refine wp_go rfl rfl ?_
      refine e_iast rfl H62 (by omega) ?_
      refine wp_go rfl rfl ?_
      refine e_get rfl H58 rfl rfl ?_
      refine wp_go rfl rfl ?_
      refine e_get rfl H58 rfl rfl ?_
      refine wp_go rfl rfl ?_
      refine e_ifge rfl (fun c44 => ?_) (fun c44 => ?_)
      · skip
        refine wp_go rfl rfl ?_
        refine e_iast rfl H63 (by omega) ?_
        refine wp_go rfl rfl ?_
        refine e_get rfl H58 rfl rfl ?_
        refine wp_go rfl rfl ?_
        refine e_get rfl H58 rfl rfl ?_
        refine wp_go rfl rfl ?_
        refine e_abs rfl rfl (by split <;> omega) ?_
        refine e_iast rfl H64 (by omega) ?_
        refine wp_go rfl rfl ?_
        refine wp_go rfl rfl ?_
        refine e_get rfl H58 rfl rfl ?_
        refine wp_go rfl rfl ?_
        refine e_iadd rfl (by omega) ?_
        refine e_put (fs' := [xR 59, xR 60, xR 61, xR 62, xR 63, xR 64, xI (pn + 1)]) rfl H58 rfl rfl ?_
        refine wp_ret rfl rfl ?_
        have := ky (by omega)
        rw [if_neg (by omega), if_neg (by omega)] at this
        exact this _ rfl rfl rfl rfl ((((Fr.rf.wr rfl).wr rfl).wr rfl).wr rfl)
      · skip
        refine wp_go rfl rfl ?_
        refine wp_go rfl rfl ?_
        refine e_iast rfl H63 (by omega) ?_
        refine wp_go rfl rfl ?_
        refine e_get rfl H58 rfl rfl ?_
        refine wp_go rfl rfl ?_
        refine e_get rfl H58 rfl rfl ?_
        refine wp_go rfl rfl ?_
        refine e_abs rfl rfl (by split <;> omega) ?_
        refine e_iast rfl H64 (by omega) ?_
        refine wp_go rfl rfl ?_
        refine wp_go rfl rfl ?_
        refine e_get rfl H58 rfl rfl ?_
        refine wp_go rfl rfl ?_
        refine e_iadd rfl (by omega) ?_
        refine e_put (fs' := [xR 59, xR 60, xR 61, xR 62, xR 63, xR 64, xI (pn + 1)]) rfl H58 rfl rfl ?_
        refine wp_ret rfl rfl ?_
        exact absurd c26 (by omega)
    · skip
      refine wp_go rfl rfl ?_
      refine wp_go rfl rfl ?_
      refine e_iast rfl H62 (by omega) ?_
      refine wp_go rfl rfl ?_
      refine e_get rfl H58 rfl rfl ?_
      refine wp_go rfl rfl ?_
      refine e_get rfl H58 rfl rfl ?_
      refine wp_go rfl rfl ?_
      refine e_ifge rfl (fun c44 => ?_) (fun c44 => ?_)
      · skip
        refine wp_go rfl rfl ?_
        refine e_iast rfl H63 (by omega) ?_
        refine wp_go rfl rfl ?_
        refine e_get rfl H58 rfl rfl ?_
        refine wp_go rfl rfl ?_
        refine e_get rfl H58 rfl rfl ?_
        refine wp_go rfl rfl ?_
        refine e_abs rfl rfl (by split <;> omega) ?_
        refine e_iast rfl H64 (by omega) ?_
        refine wp_go rfl rfl ?_
        refine wp_go rfl rfl ?_
        refine e_get rfl H58 rfl rfl ?_
        refine wp_go rfl rfl ?_
        refine e_iadd rfl (by omega) ?_
        refine e_put (fs' := [xR 59, xR 60, xR 61, xR 62, xR 63, xR 64, xI (pn + 1)]) rfl H58 rfl rfl ?_
        refine wp_ret rfl rfl ?_
        exact absurd c26 (by omega)
      · skip
        refine wp_go rfl rfl ?_
        refine wp_go rfl rfl ?_
        refine e_iast rfl H63 (by omega) ?_
        refine wp_go rfl rfl ?_
        refine e_get rfl H58 rfl rfl ?_
        refine wp_go rfl rfl ?_
        refine e_get rfl H58 rfl rfl ?_
        refine wp_go rfl rfl ?_
        refine e_abs rfl rfl (by split <;> omega) ?_
        refine e_iast rfl H64 (by omega) ?_
        refine wp_go rfl rfl ?_
        refine wp_go rfl rfl ?_
        refine e_get rfl H58 rfl rfl ?_
        refine wp_go rfl rfl ?_
        refine e_iadd rfl (by omega) ?_
        refine e_put (fs' := [xR 59, xR 60, xR 61, xR 62, xR 63, xR 64, xI (pn + 1)]) rfl H58 rfl rfl ?_
        refine wp_ret rfl rfl ?_
        have := ky (by omega)
        rw [if_pos (by omega), if_pos (by omega)] at this
        exact this _ rfl rfl rfl rfl ((((Fr.rf.wr rfl).wr rfl).wr rfl).wr rfl)
  · skip
    refine wp_ret rfl rfl ?_
    exact kn (by omega)
