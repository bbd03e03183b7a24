set_option maxRecDepth 100000 in
theorem c_mpart {d : Nat} {h : hc_H} {Q : List hc_V → hc_H → Prop} {S : Nat} {s sm M : Nat → Int} (h1 : 1 ≤ S) (hS : S < 256) (hM : ∀ q, q < 256 → -1 ≤ M q ∧ M q ≤ 1000) (H71 : h.2.2 71 = mo s) (H81 : h.2.2 81 = ar 256 sm) (H82 : h.2.2 82 = ar 256 M) (k : Q [xI ((ptl sm M S (S + 1) 1 : Nat) : Int)] h) : hc_wp (d + 2) mX10_partOf 0 [xR 71, xI (S : Int), none, none] [] h Q := by
  refine wp_go rfl rfl ?_
  refine wp_go rfl rfl ?_
  refine wp_call rfl rfl rfl rfl ?_
  refine c_mlow h1 hS ?_
  refine wp_go rfl rfl ?_
  refine e_istn (L' := [xR 71, xI (S : Int), xI (hc_shl 1 ((tz S : Nat) : Int)), none]) rfl rfl rfl ?_
  refine wp_go rfl rfl ?_
  refine e_istn (L' := [xR 71, xI (S : Int), xI (hc_shl 1 ((tz S : Nat) : Int)), xI 1]) rfl rfl rfl ?_
  exact l_mpart h1 hS hM H71 H81 H82 k S 0 (by omega) rfl
