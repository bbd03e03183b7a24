/-! the class: a row of words, worked -/
theorem wd_m {w nb kd : Int} (h : w = nb * 64 + kd) (h0 : 0 ≤ nb) (h1 : 0 ≤ kd) (h2 : kd < 64) : Int.tmod w 64 = kd ∧ Int.tdiv w 64 = nb := by
  rw [Int.tmod_eq_emod_of_nonneg (by omega), Int.tdiv_eq_ediv_of_nonneg (by omega)]
  omega
set_option maxRecDepth 100000 in
theorem v_3 {d : Nat} {h : hc_H} {Q : List hc_V → hc_H → Prop} {t n a : Nat} {ht i nb : Int} {wd nm vs : Nat → Int} {l4 l5 : hc_V} (Ht : h.2.2 t = ar n wd) (H24 : h.2.2 24 = wk ht) (H25 : h.2.2 25 = ar 64 nm) (H26 : h.2.2 26 = ar 64 vs) (ht91 : 91 ≤ t) (hn : n ≤ 300) (han : a < n) (hi : 0 ≤ i ∧ i ≤ (a : Int)) (hwd : wd a = nb * 64 + 3) (hnb : 0 ≤ nb ∧ nb ≤ 10000) (hh : 0 ≤ ht ∧ ht < 64) (k : hc_wp (d + 2) mX8_value 9 [xR 24, xR t, xI ((a : Int) + 1), xI (i + 1), xI 3, xI nb] [] (hc_wr (hc_wr h 26 (ar 64 (hc_u vs (Int.toNat ht) (clp nb)))) 24 (wk (ht + 1))) Q) : hc_wp (d + 2) mX8_value 9 [xR 24, xR t, xI (a : Int), xI i, l4, l5] [] h Q := by
  have hw : wd (Int.toNat (a : Int)) = nb * 64 + 3 := hwd
  obtain ⟨hm, hd⟩ := wd_m hw hnb.1 (by decide) (by decide)
  refine wp_go rfl rfl ?_
  refine wp_go rfl rfl ?_
  refine e_alen rfl Ht rfl (by omega) ?_
  refine e_cge rfl (fun c12 => absurd c12 (by omega)) (fun c12 => ?_)
  refine wp_go rfl rfl ?_
  refine e_iflt rfl (fun c16 => absurd c16 (by omega)) (fun c16 => ?_)
  refine wp_go rfl rfl ?_
  refine wp_go rfl rfl ?_
  refine e_alen rfl Ht rfl (by omega) ?_
  refine e_cge rfl (fun c22 => absurd c22 (by omega)) (fun c22 => ?_)
  refine wp_go rfl rfl ?_
  refine wp_go rfl rfl ?_
  refine e_ald rfl Ht rfl (by omega) ?_
  refine wp_go rfl rfl ?_
  refine e_irem rfl (by decide) ?_
  refine e_ist (L' := [xR 24, xR t, xI (a : Int), xI i, xI (Int.tmod (wd (Int.toNat (a : Int))) 64), l5]) rfl rfl rfl ?_
  rw [hm]
  refine wp_go rfl rfl ?_
  refine wp_go rfl rfl ?_
  refine e_ald rfl Ht rfl (by omega) ?_
  refine wp_go rfl rfl ?_
  refine e_idiv rfl (by decide) (by rw [hd]; omega) ?_
  refine e_ist (L' := [xR 24, xR t, xI (a : Int), xI i, xI 3, xI (Int.tdiv (wd (Int.toNat (a : Int))) 64)]) rfl rfl rfl ?_
  rw [hd]
  refine e_inc (L' := [xR 24, xR t, xI ((a : Int) + 1), xI i, xI 3, xI nb]) rfl rfl (by omega) rfl ?_
  refine wp_go rfl rfl ?_
  refine wp_go rfl rfl ?_
  refine wp_go rfl rfl ?_
  refine wp_go rfl rfl ?_
  refine wp_go rfl rfl ?_
  refine wp_go rfl rfl ?_
  refine wp_go rfl rfl ?_
  refine wp_go rfl rfl ?_
  refine wp_go rfl rfl ?_
  refine wp_go rfl rfl ?_
  refine wp_go rfl rfl ?_
  refine wp_go rfl rfl ?_
  refine wp_cv rfl rfl rfl H24 rfl rfl rfl ?_
  refine c_work3 H24 H25 H26 hh ?_
  refine e_inc (L' := [xR 24, xR t, xI ((a : Int) + 1), xI (i + 1), xI 3, xI nb]) rfl rfl (by omega) rfl ?_
  refine wp_go rfl rfl ?_
  exact k
set_option maxRecDepth 100000 in
theorem v_4 {d : Nat} {h : hc_H} {Q : List hc_V → hc_H → Prop} {t n a : Nat} {ht i nb : Int} {wd nm vs : Nat → Int} {l4 l5 : hc_V} (Ht : h.2.2 t = ar n wd) (H24 : h.2.2 24 = wk ht) (H25 : h.2.2 25 = ar 64 nm) (H26 : h.2.2 26 = ar 64 vs) (ht91 : 91 ≤ t) (hn : n ≤ 300) (han : a < n) (hi : 0 ≤ i ∧ i ≤ (a : Int)) (hwd : wd a = nb * 64 + 4) (hnb : 0 ≤ nb ∧ nb ≤ 10000) (hh : 0 ≤ ht ∧ ht < 64) (hn4 : nb ≤ 63) (k : hc_wp (d + 2) mX8_value 9 [xR 24, xR t, xI ((a : Int) + 1), xI (i + 1), xI 4, xI nb] [] (hc_wr (hc_wr h 26 (ar 64 (hc_u vs (Int.toNat ht) (clp (nm (Int.toNat nb)))))) 24 (wk (ht + 1))) Q) : hc_wp (d + 2) mX8_value 9 [xR 24, xR t, xI (a : Int), xI i, l4, l5] [] h Q := by
  have hw : wd (Int.toNat (a : Int)) = nb * 64 + 4 := hwd
  obtain ⟨hm, hd⟩ := wd_m hw hnb.1 (by decide) (by decide)
  refine wp_go rfl rfl ?_
  refine wp_go rfl rfl ?_
  refine e_alen rfl Ht rfl (by omega) ?_
  refine e_cge rfl (fun c12 => absurd c12 (by omega)) (fun c12 => ?_)
  refine wp_go rfl rfl ?_
  refine e_iflt rfl (fun c16 => absurd c16 (by omega)) (fun c16 => ?_)
  refine wp_go rfl rfl ?_
  refine wp_go rfl rfl ?_
  refine e_alen rfl Ht rfl (by omega) ?_
  refine e_cge rfl (fun c22 => absurd c22 (by omega)) (fun c22 => ?_)
  refine wp_go rfl rfl ?_
  refine wp_go rfl rfl ?_
  refine e_ald rfl Ht rfl (by omega) ?_
  refine wp_go rfl rfl ?_
  refine e_irem rfl (by decide) ?_
  refine e_ist (L' := [xR 24, xR t, xI (a : Int), xI i, xI (Int.tmod (wd (Int.toNat (a : Int))) 64), l5]) rfl rfl rfl ?_
  rw [hm]
  refine wp_go rfl rfl ?_
  refine wp_go rfl rfl ?_
  refine e_ald rfl Ht rfl (by omega) ?_
  refine wp_go rfl rfl ?_
  refine e_idiv rfl (by decide) (by rw [hd]; omega) ?_
  refine e_ist (L' := [xR 24, xR t, xI (a : Int), xI i, xI 4, xI (Int.tdiv (wd (Int.toNat (a : Int))) 64)]) rfl rfl rfl ?_
  rw [hd]
  refine e_inc (L' := [xR 24, xR t, xI ((a : Int) + 1), xI i, xI 4, xI nb]) rfl rfl (by omega) rfl ?_
  refine wp_go rfl rfl ?_
  refine wp_go rfl rfl ?_
  refine wp_go rfl rfl ?_
  refine wp_go rfl rfl ?_
  refine wp_go rfl rfl ?_
  refine wp_go rfl rfl ?_
  refine wp_go rfl rfl ?_
  refine wp_go rfl rfl ?_
  refine wp_go rfl rfl ?_
  refine wp_go rfl rfl ?_
  refine wp_go rfl rfl ?_
  refine wp_go rfl rfl ?_
  refine wp_cv rfl rfl rfl H24 rfl rfl rfl ?_
  refine c_work4 H24 H25 H26 hh ⟨hnb.1, hn4⟩ ?_
  refine e_inc (L' := [xR 24, xR t, xI ((a : Int) + 1), xI (i + 1), xI 4, xI nb]) rfl rfl (by omega) rfl ?_
  refine wp_go rfl rfl ?_
  exact k
set_option maxRecDepth 100000 in
theorem v_5 {d : Nat} {h : hc_H} {Q : List hc_V → hc_H → Prop} {t n a : Nat} {ht i nb : Int} {wd nm vs : Nat → Int} {l4 l5 : hc_V} (Ht : h.2.2 t = ar n wd) (H24 : h.2.2 24 = wk ht) (H25 : h.2.2 25 = ar 64 nm) (H26 : h.2.2 26 = ar 64 vs) (ht91 : 91 ≤ t) (hn : n ≤ 300) (han : a < n) (hi : 0 ≤ i ∧ i ≤ (a : Int)) (hwd : wd a = nb * 64 + 5) (hnb : 0 ≤ nb ∧ nb ≤ 10000) (hh : 0 < ht ∧ ht ≤ 64) (hv : ∀ j : Nat, j < Int.toNat ht → -1000000 ≤ vs j ∧ vs j ≤ 1000000) (k : ∀ y : Int, y = vs (Int.toNat (ht - 1)) → hc_wp (d + 2) mX8_value 9 [xR 24, xR t, xI ((a : Int) + 1), xI (i + 1), xI 5, xI nb] [] (hc_wr (hc_wr h 26 (ar 64 (hc_u vs (Int.toNat (ht - 1)) (clp (-y))))) 24 (wk ht)) Q) : hc_wp (d + 2) mX8_value 9 [xR 24, xR t, xI (a : Int), xI i, l4, l5] [] h Q := by
  have hw : wd (Int.toNat (a : Int)) = nb * 64 + 5 := hwd
  obtain ⟨hm, hd⟩ := wd_m hw hnb.1 (by decide) (by decide)
  refine wp_go rfl rfl ?_
  refine wp_go rfl rfl ?_
  refine e_alen rfl Ht rfl (by omega) ?_
  refine e_cge rfl (fun c12 => absurd c12 (by omega)) (fun c12 => ?_)
  refine wp_go rfl rfl ?_
  refine e_iflt rfl (fun c16 => absurd c16 (by omega)) (fun c16 => ?_)
  refine wp_go rfl rfl ?_
  refine wp_go rfl rfl ?_
  refine e_alen rfl Ht rfl (by omega) ?_
  refine e_cge rfl (fun c22 => absurd c22 (by omega)) (fun c22 => ?_)
  refine wp_go rfl rfl ?_
  refine wp_go rfl rfl ?_
  refine e_ald rfl Ht rfl (by omega) ?_
  refine wp_go rfl rfl ?_
  refine e_irem rfl (by decide) ?_
  refine e_ist (L' := [xR 24, xR t, xI (a : Int), xI i, xI (Int.tmod (wd (Int.toNat (a : Int))) 64), l5]) rfl rfl rfl ?_
  rw [hm]
  refine wp_go rfl rfl ?_
  refine wp_go rfl rfl ?_
  refine e_ald rfl Ht rfl (by omega) ?_
  refine wp_go rfl rfl ?_
  refine e_idiv rfl (by decide) (by rw [hd]; omega) ?_
  refine e_ist (L' := [xR 24, xR t, xI (a : Int), xI i, xI 5, xI (Int.tdiv (wd (Int.toNat (a : Int))) 64)]) rfl rfl rfl ?_
  rw [hd]
  refine e_inc (L' := [xR 24, xR t, xI ((a : Int) + 1), xI i, xI 5, xI nb]) rfl rfl (by omega) rfl ?_
  refine wp_go rfl rfl ?_
  refine wp_go rfl rfl ?_
  refine wp_go rfl rfl ?_
  refine wp_go rfl rfl ?_
  refine wp_go rfl rfl ?_
  refine wp_go rfl rfl ?_
  refine wp_go rfl rfl ?_
  refine wp_go rfl rfl ?_
  refine wp_go rfl rfl ?_
  refine wp_go rfl rfl ?_
  refine wp_go rfl rfl ?_
  refine wp_go rfl rfl ?_
  refine wp_cv rfl rfl rfl H24 rfl rfl rfl ?_
  refine c_work5 H24 H25 H26 hh hv (fun y hy => ?_)
  refine e_inc (L' := [xR 24, xR t, xI ((a : Int) + 1), xI (i + 1), xI 5, xI nb]) rfl rfl (by omega) rfl ?_
  refine wp_go rfl rfl ?_
  exact k y hy
set_option maxRecDepth 100000 in
theorem v_22 {d : Nat} {h : hc_H} {Q : List hc_V → hc_H → Prop} {t n a : Nat} {ht i nb : Int} {wd nm vs : Nat → Int} {l4 l5 : hc_V} (Ht : h.2.2 t = ar n wd) (H24 : h.2.2 24 = wk ht) (H25 : h.2.2 25 = ar 64 nm) (H26 : h.2.2 26 = ar 64 vs) (ht91 : 91 ≤ t) (hn : n ≤ 300) (han : a < n) (hi : 0 ≤ i ∧ i ≤ (a : Int)) (hwd : wd a = nb * 64 + 22) (hnb : 0 ≤ nb ∧ nb ≤ 10000) (hh : 0 < ht ∧ ht ≤ 64) (hv : ∀ j : Nat, j < Int.toNat ht → -1000000 ≤ vs j ∧ vs j ≤ 1000000) (k : ∀ y : Int, y = vs (Int.toNat (ht - 1)) → hc_wp (d + 2) mX8_value 9 [xR 24, xR t, xI ((a : Int) + 1), xI (i + 1), xI 22, xI nb] [] (hc_wr (hc_wr h 26 (ar 64 (hc_u vs (Int.toNat (ht - 1)) (clp (1 - y))))) 24 (wk ht)) Q) : hc_wp (d + 2) mX8_value 9 [xR 24, xR t, xI (a : Int), xI i, l4, l5] [] h Q := by
  have hw : wd (Int.toNat (a : Int)) = nb * 64 + 22 := hwd
  obtain ⟨hm, hd⟩ := wd_m hw hnb.1 (by decide) (by decide)
  refine wp_go rfl rfl ?_
  refine wp_go rfl rfl ?_
  refine e_alen rfl Ht rfl (by omega) ?_
  refine e_cge rfl (fun c12 => absurd c12 (by omega)) (fun c12 => ?_)
  refine wp_go rfl rfl ?_
  refine e_iflt rfl (fun c16 => absurd c16 (by omega)) (fun c16 => ?_)
  refine wp_go rfl rfl ?_
  refine wp_go rfl rfl ?_
  refine e_alen rfl Ht rfl (by omega) ?_
  refine e_cge rfl (fun c22 => absurd c22 (by omega)) (fun c22 => ?_)
  refine wp_go rfl rfl ?_
  refine wp_go rfl rfl ?_
  refine e_ald rfl Ht rfl (by omega) ?_
  refine wp_go rfl rfl ?_
  refine e_irem rfl (by decide) ?_
  refine e_ist (L' := [xR 24, xR t, xI (a : Int), xI i, xI (Int.tmod (wd (Int.toNat (a : Int))) 64), l5]) rfl rfl rfl ?_
  rw [hm]
  refine wp_go rfl rfl ?_
  refine wp_go rfl rfl ?_
  refine e_ald rfl Ht rfl (by omega) ?_
  refine wp_go rfl rfl ?_
  refine e_idiv rfl (by decide) (by rw [hd]; omega) ?_
  refine e_ist (L' := [xR 24, xR t, xI (a : Int), xI i, xI 22, xI (Int.tdiv (wd (Int.toNat (a : Int))) 64)]) rfl rfl rfl ?_
  rw [hd]
  refine e_inc (L' := [xR 24, xR t, xI ((a : Int) + 1), xI i, xI 22, xI nb]) rfl rfl (by omega) rfl ?_
  refine wp_go rfl rfl ?_
  refine wp_go rfl rfl ?_
  refine wp_go rfl rfl ?_
  refine wp_go rfl rfl ?_
  refine wp_go rfl rfl ?_
  refine wp_go rfl rfl ?_
  refine wp_go rfl rfl ?_
  refine wp_go rfl rfl ?_
  refine wp_go rfl rfl ?_
  refine wp_go rfl rfl ?_
  refine wp_go rfl rfl ?_
  refine wp_go rfl rfl ?_
  refine wp_cv rfl rfl rfl H24 rfl rfl rfl ?_
  refine c_work22 H24 H25 H26 hh hv (fun y hy => ?_)
  refine e_inc (L' := [xR 24, xR t, xI ((a : Int) + 1), xI (i + 1), xI 22, xI nb]) rfl rfl (by omega) rfl ?_
  refine wp_go rfl rfl ?_
  exact k y hy
set_option maxRecDepth 100000 in
theorem v_46 {d : Nat} {h : hc_H} {Q : List hc_V → hc_H → Prop} {t n a : Nat} {ht i nb : Int} {wd nm vs : Nat → Int} {l4 l5 : hc_V} (Ht : h.2.2 t = ar n wd) (H24 : h.2.2 24 = wk ht) (H25 : h.2.2 25 = ar 64 nm) (H26 : h.2.2 26 = ar 64 vs) (ht91 : 91 ≤ t) (hn : n ≤ 300) (han : a < n) (hi : 0 ≤ i ∧ i ≤ (a : Int)) (hwd : wd a = nb * 64 + 46) (hnb : 0 ≤ nb ∧ nb ≤ 10000) (hh : 1 < ht ∧ ht ≤ 64) (hv : ∀ j : Nat, j < Int.toNat ht → -1000000 ≤ vs j ∧ vs j ≤ 1000000) (k : ∀ x y : Int, y = vs (Int.toNat (ht - 1)) → x = vs (Int.toNat (ht - 1 - 1)) → hc_wp (d + 2) mX8_value 9 [xR 24, xR t, xI ((a : Int) + 1), xI (i + 1), xI 46, xI nb] [] (hc_wr (hc_wr h 26 (ar 64 (hc_u vs (Int.toNat (ht - 1 - 1)) (clp (rk 46 x y))))) 24 (wk (ht - 1))) Q) : hc_wp (d + 2) mX8_value 9 [xR 24, xR t, xI (a : Int), xI i, l4, l5] [] h Q := by
  have hw : wd (Int.toNat (a : Int)) = nb * 64 + 46 := hwd
  obtain ⟨hm, hd⟩ := wd_m hw hnb.1 (by decide) (by decide)
  refine wp_go rfl rfl ?_
  refine wp_go rfl rfl ?_
  refine e_alen rfl Ht rfl (by omega) ?_
  refine e_cge rfl (fun c12 => absurd c12 (by omega)) (fun c12 => ?_)
  refine wp_go rfl rfl ?_
  refine e_iflt rfl (fun c16 => absurd c16 (by omega)) (fun c16 => ?_)
  refine wp_go rfl rfl ?_
  refine wp_go rfl rfl ?_
  refine e_alen rfl Ht rfl (by omega) ?_
  refine e_cge rfl (fun c22 => absurd c22 (by omega)) (fun c22 => ?_)
  refine wp_go rfl rfl ?_
  refine wp_go rfl rfl ?_
  refine e_ald rfl Ht rfl (by omega) ?_
  refine wp_go rfl rfl ?_
  refine e_irem rfl (by decide) ?_
  refine e_ist (L' := [xR 24, xR t, xI (a : Int), xI i, xI (Int.tmod (wd (Int.toNat (a : Int))) 64), l5]) rfl rfl rfl ?_
  rw [hm]
  refine wp_go rfl rfl ?_
  refine wp_go rfl rfl ?_
  refine e_ald rfl Ht rfl (by omega) ?_
  refine wp_go rfl rfl ?_
  refine e_idiv rfl (by decide) (by rw [hd]; omega) ?_
  refine e_ist (L' := [xR 24, xR t, xI (a : Int), xI i, xI 46, xI (Int.tdiv (wd (Int.toNat (a : Int))) 64)]) rfl rfl rfl ?_
  rw [hd]
  refine e_inc (L' := [xR 24, xR t, xI ((a : Int) + 1), xI i, xI 46, xI nb]) rfl rfl (by omega) rfl ?_
  refine wp_go rfl rfl ?_
  refine wp_go rfl rfl ?_
  refine wp_go rfl rfl ?_
  refine wp_go rfl rfl ?_
  refine wp_go rfl rfl ?_
  refine wp_go rfl rfl ?_
  refine wp_go rfl rfl ?_
  refine wp_go rfl rfl ?_
  refine wp_go rfl rfl ?_
  refine wp_go rfl rfl ?_
  refine wp_go rfl rfl ?_
  refine wp_go rfl rfl ?_
  refine wp_cv rfl rfl rfl H24 rfl rfl rfl ?_
  refine c_work46 H24 H25 H26 hh hv (fun x y hy hx => ?_)
  refine e_inc (L' := [xR 24, xR t, xI ((a : Int) + 1), xI (i + 1), xI 46, xI nb]) rfl rfl (by omega) rfl ?_
  refine wp_go rfl rfl ?_
  exact k x y hy hx
set_option maxRecDepth 100000 in
theorem v_47 {d : Nat} {h : hc_H} {Q : List hc_V → hc_H → Prop} {t n a : Nat} {ht i nb : Int} {wd nm vs : Nat → Int} {l4 l5 : hc_V} (Ht : h.2.2 t = ar n wd) (H24 : h.2.2 24 = wk ht) (H25 : h.2.2 25 = ar 64 nm) (H26 : h.2.2 26 = ar 64 vs) (ht91 : 91 ≤ t) (hn : n ≤ 300) (han : a < n) (hi : 0 ≤ i ∧ i ≤ (a : Int)) (hwd : wd a = nb * 64 + 47) (hnb : 0 ≤ nb ∧ nb ≤ 10000) (hh : 1 < ht ∧ ht ≤ 64) (hv : ∀ j : Nat, j < Int.toNat ht → -1000000 ≤ vs j ∧ vs j ≤ 1000000) (k : ∀ x y : Int, y = vs (Int.toNat (ht - 1)) → x = vs (Int.toNat (ht - 1 - 1)) → hc_wp (d + 2) mX8_value 9 [xR 24, xR t, xI ((a : Int) + 1), xI (i + 1), xI 47, xI nb] [] (hc_wr (hc_wr h 26 (ar 64 (hc_u vs (Int.toNat (ht - 1 - 1)) (clp (rk 47 x y))))) 24 (wk (ht - 1))) Q) : hc_wp (d + 2) mX8_value 9 [xR 24, xR t, xI (a : Int), xI i, l4, l5] [] h Q := by
  have hw : wd (Int.toNat (a : Int)) = nb * 64 + 47 := hwd
  obtain ⟨hm, hd⟩ := wd_m hw hnb.1 (by decide) (by decide)
  refine wp_go rfl rfl ?_
  refine wp_go rfl rfl ?_
  refine e_alen rfl Ht rfl (by omega) ?_
  refine e_cge rfl (fun c12 => absurd c12 (by omega)) (fun c12 => ?_)
  refine wp_go rfl rfl ?_
  refine e_iflt rfl (fun c16 => absurd c16 (by omega)) (fun c16 => ?_)
  refine wp_go rfl rfl ?_
  refine wp_go rfl rfl ?_
  refine e_alen rfl Ht rfl (by omega) ?_
  refine e_cge rfl (fun c22 => absurd c22 (by omega)) (fun c22 => ?_)
  refine wp_go rfl rfl ?_
  refine wp_go rfl rfl ?_
  refine e_ald rfl Ht rfl (by omega) ?_
  refine wp_go rfl rfl ?_
  refine e_irem rfl (by decide) ?_
  refine e_ist (L' := [xR 24, xR t, xI (a : Int), xI i, xI (Int.tmod (wd (Int.toNat (a : Int))) 64), l5]) rfl rfl rfl ?_
  rw [hm]
  refine wp_go rfl rfl ?_
  refine wp_go rfl rfl ?_
  refine e_ald rfl Ht rfl (by omega) ?_
  refine wp_go rfl rfl ?_
  refine e_idiv rfl (by decide) (by rw [hd]; omega) ?_
  refine e_ist (L' := [xR 24, xR t, xI (a : Int), xI i, xI 47, xI (Int.tdiv (wd (Int.toNat (a : Int))) 64)]) rfl rfl rfl ?_
  rw [hd]
  refine e_inc (L' := [xR 24, xR t, xI ((a : Int) + 1), xI i, xI 47, xI nb]) rfl rfl (by omega) rfl ?_
  refine wp_go rfl rfl ?_
  refine wp_go rfl rfl ?_
  refine wp_go rfl rfl ?_
  refine wp_go rfl rfl ?_
  refine wp_go rfl rfl ?_
  refine wp_go rfl rfl ?_
  refine wp_go rfl rfl ?_
  refine wp_go rfl rfl ?_
  refine wp_go rfl rfl ?_
  refine wp_go rfl rfl ?_
  refine wp_go rfl rfl ?_
  refine wp_go rfl rfl ?_
  refine wp_cv rfl rfl rfl H24 rfl rfl rfl ?_
  refine c_work47 H24 H25 H26 hh hv (fun x y hy hx => ?_)
  refine e_inc (L' := [xR 24, xR t, xI ((a : Int) + 1), xI (i + 1), xI 47, xI nb]) rfl rfl (by omega) rfl ?_
  refine wp_go rfl rfl ?_
  exact k x y hy hx
set_option maxRecDepth 100000 in
theorem v_48 {d : Nat} {h : hc_H} {Q : List hc_V → hc_H → Prop} {t n a : Nat} {ht i nb : Int} {wd nm vs : Nat → Int} {l4 l5 : hc_V} (Ht : h.2.2 t = ar n wd) (H24 : h.2.2 24 = wk ht) (H25 : h.2.2 25 = ar 64 nm) (H26 : h.2.2 26 = ar 64 vs) (ht91 : 91 ≤ t) (hn : n ≤ 300) (han : a < n) (hi : 0 ≤ i ∧ i ≤ (a : Int)) (hwd : wd a = nb * 64 + 48) (hnb : 0 ≤ nb ∧ nb ≤ 10000) (hh : 1 < ht ∧ ht ≤ 64) (hv : ∀ j : Nat, j < Int.toNat ht → -1000000 ≤ vs j ∧ vs j ≤ 1000000) (k : ∀ x y : Int, y = vs (Int.toNat (ht - 1)) → x = vs (Int.toNat (ht - 1 - 1)) → hc_wp (d + 2) mX8_value 9 [xR 24, xR t, xI ((a : Int) + 1), xI (i + 1), xI 48, xI nb] [] (hc_wr (hc_wr h 26 (ar 64 (hc_u vs (Int.toNat (ht - 1 - 1)) (clp (rk 48 x y))))) 24 (wk (ht - 1))) Q) : hc_wp (d + 2) mX8_value 9 [xR 24, xR t, xI (a : Int), xI i, l4, l5] [] h Q := by
  have hw : wd (Int.toNat (a : Int)) = nb * 64 + 48 := hwd
  obtain ⟨hm, hd⟩ := wd_m hw hnb.1 (by decide) (by decide)
  refine wp_go rfl rfl ?_
  refine wp_go rfl rfl ?_
  refine e_alen rfl Ht rfl (by omega) ?_
  refine e_cge rfl (fun c12 => absurd c12 (by omega)) (fun c12 => ?_)
  refine wp_go rfl rfl ?_
  refine e_iflt rfl (fun c16 => absurd c16 (by omega)) (fun c16 => ?_)
  refine wp_go rfl rfl ?_
  refine wp_go rfl rfl ?_
  refine e_alen rfl Ht rfl (by omega) ?_
  refine e_cge rfl (fun c22 => absurd c22 (by omega)) (fun c22 => ?_)
  refine wp_go rfl rfl ?_
  refine wp_go rfl rfl ?_
  refine e_ald rfl Ht rfl (by omega) ?_
  refine wp_go rfl rfl ?_
  refine e_irem rfl (by decide) ?_
  refine e_ist (L' := [xR 24, xR t, xI (a : Int), xI i, xI (Int.tmod (wd (Int.toNat (a : Int))) 64), l5]) rfl rfl rfl ?_
  rw [hm]
  refine wp_go rfl rfl ?_
  refine wp_go rfl rfl ?_
  refine e_ald rfl Ht rfl (by omega) ?_
  refine wp_go rfl rfl ?_
  refine e_idiv rfl (by decide) (by rw [hd]; omega) ?_
  refine e_ist (L' := [xR 24, xR t, xI (a : Int), xI i, xI 48, xI (Int.tdiv (wd (Int.toNat (a : Int))) 64)]) rfl rfl rfl ?_
  rw [hd]
  refine e_inc (L' := [xR 24, xR t, xI ((a : Int) + 1), xI i, xI 48, xI nb]) rfl rfl (by omega) rfl ?_
  refine wp_go rfl rfl ?_
  refine wp_go rfl rfl ?_
  refine wp_go rfl rfl ?_
  refine wp_go rfl rfl ?_
  refine wp_go rfl rfl ?_
  refine wp_go rfl rfl ?_
  refine wp_go rfl rfl ?_
  refine wp_go rfl rfl ?_
  refine wp_go rfl rfl ?_
  refine wp_go rfl rfl ?_
  refine wp_go rfl rfl ?_
  refine wp_go rfl rfl ?_
  refine wp_cv rfl rfl rfl H24 rfl rfl rfl ?_
  refine c_work48 H24 H25 H26 hh hv (fun x y hy hx => ?_)
  refine e_inc (L' := [xR 24, xR t, xI ((a : Int) + 1), xI (i + 1), xI 48, xI nb]) rfl rfl (by omega) rfl ?_
  refine wp_go rfl rfl ?_
  exact k x y hy hx
set_option maxRecDepth 100000 in
theorem v_49 {d : Nat} {h : hc_H} {Q : List hc_V → hc_H → Prop} {t n a : Nat} {ht i nb : Int} {wd nm vs : Nat → Int} {l4 l5 : hc_V} (Ht : h.2.2 t = ar n wd) (H24 : h.2.2 24 = wk ht) (H25 : h.2.2 25 = ar 64 nm) (H26 : h.2.2 26 = ar 64 vs) (ht91 : 91 ≤ t) (hn : n ≤ 300) (han : a < n) (hi : 0 ≤ i ∧ i ≤ (a : Int)) (hwd : wd a = nb * 64 + 49) (hnb : 0 ≤ nb ∧ nb ≤ 10000) (hh : 1 < ht ∧ ht ≤ 64) (hv : ∀ j : Nat, j < Int.toNat ht → -1000000 ≤ vs j ∧ vs j ≤ 1000000) (k : ∀ x y : Int, y = vs (Int.toNat (ht - 1)) → x = vs (Int.toNat (ht - 1 - 1)) → hc_wp (d + 2) mX8_value 9 [xR 24, xR t, xI ((a : Int) + 1), xI (i + 1), xI 49, xI nb] [] (hc_wr (hc_wr h 26 (ar 64 (hc_u vs (Int.toNat (ht - 1 - 1)) (clp (rk 49 x y))))) 24 (wk (ht - 1))) Q) : hc_wp (d + 2) mX8_value 9 [xR 24, xR t, xI (a : Int), xI i, l4, l5] [] h Q := by
  have hw : wd (Int.toNat (a : Int)) = nb * 64 + 49 := hwd
  obtain ⟨hm, hd⟩ := wd_m hw hnb.1 (by decide) (by decide)
  refine wp_go rfl rfl ?_
  refine wp_go rfl rfl ?_
  refine e_alen rfl Ht rfl (by omega) ?_
  refine e_cge rfl (fun c12 => absurd c12 (by omega)) (fun c12 => ?_)
  refine wp_go rfl rfl ?_
  refine e_iflt rfl (fun c16 => absurd c16 (by omega)) (fun c16 => ?_)
  refine wp_go rfl rfl ?_
  refine wp_go rfl rfl ?_
  refine e_alen rfl Ht rfl (by omega) ?_
  refine e_cge rfl (fun c22 => absurd c22 (by omega)) (fun c22 => ?_)
  refine wp_go rfl rfl ?_
  refine wp_go rfl rfl ?_
  refine e_ald rfl Ht rfl (by omega) ?_
  refine wp_go rfl rfl ?_
  refine e_irem rfl (by decide) ?_
  refine e_ist (L' := [xR 24, xR t, xI (a : Int), xI i, xI (Int.tmod (wd (Int.toNat (a : Int))) 64), l5]) rfl rfl rfl ?_
  rw [hm]
  refine wp_go rfl rfl ?_
  refine wp_go rfl rfl ?_
  refine e_ald rfl Ht rfl (by omega) ?_
  refine wp_go rfl rfl ?_
  refine e_idiv rfl (by decide) (by rw [hd]; omega) ?_
  refine e_ist (L' := [xR 24, xR t, xI (a : Int), xI i, xI 49, xI (Int.tdiv (wd (Int.toNat (a : Int))) 64)]) rfl rfl rfl ?_
  rw [hd]
  refine e_inc (L' := [xR 24, xR t, xI ((a : Int) + 1), xI i, xI 49, xI nb]) rfl rfl (by omega) rfl ?_
  refine wp_go rfl rfl ?_
  refine wp_go rfl rfl ?_
  refine wp_go rfl rfl ?_
  refine wp_go rfl rfl ?_
  refine wp_go rfl rfl ?_
  refine wp_go rfl rfl ?_
  refine wp_go rfl rfl ?_
  refine wp_go rfl rfl ?_
  refine wp_go rfl rfl ?_
  refine wp_go rfl rfl ?_
  refine wp_go rfl rfl ?_
  refine wp_go rfl rfl ?_
  refine wp_cv rfl rfl rfl H24 rfl rfl rfl ?_
  refine c_work49 H24 H25 H26 hh hv (fun x y hy hx => ?_)
  refine e_inc (L' := [xR 24, xR t, xI ((a : Int) + 1), xI (i + 1), xI 49, xI nb]) rfl rfl (by omega) rfl ?_
  refine wp_go rfl rfl ?_
  exact k x y hy hx
set_option maxRecDepth 100000 in
theorem v_40 {d : Nat} {h : hc_H} {Q : List hc_V → hc_H → Prop} {t n a : Nat} {ht i nb : Int} {wd nm vs : Nat → Int} {l4 l5 : hc_V} (Ht : h.2.2 t = ar n wd) (H24 : h.2.2 24 = wk ht) (H25 : h.2.2 25 = ar 64 nm) (H26 : h.2.2 26 = ar 64 vs) (ht91 : 91 ≤ t) (hn : n ≤ 300) (han : a < n) (hi : 0 ≤ i ∧ i ≤ (a : Int)) (hwd : wd a = nb * 64 + 40) (hnb : 0 ≤ nb ∧ nb ≤ 10000) (hh : 1 < ht ∧ ht ≤ 64) (hv : ∀ j : Nat, j < Int.toNat ht → -1000000 ≤ vs j ∧ vs j ≤ 1000000) (k : ∀ x y : Int, y = vs (Int.toNat (ht - 1)) → x = vs (Int.toNat (ht - 1 - 1)) → hc_wp (d + 2) mX8_value 9 [xR 24, xR t, xI ((a : Int) + 1), xI (i + 1), xI 40, xI nb] [] (hc_wr (hc_wr h 26 (ar 64 (hc_u vs (Int.toNat (ht - 1 - 1)) (clp (if x < y then 1 else 0))))) 24 (wk (ht - 1))) Q) : hc_wp (d + 2) mX8_value 9 [xR 24, xR t, xI (a : Int), xI i, l4, l5] [] h Q := by
  have hw : wd (Int.toNat (a : Int)) = nb * 64 + 40 := hwd
  obtain ⟨hm, hd⟩ := wd_m hw hnb.1 (by decide) (by decide)
  refine wp_go rfl rfl ?_
  refine wp_go rfl rfl ?_
  refine e_alen rfl Ht rfl (by omega) ?_
  refine e_cge rfl (fun c12 => absurd c12 (by omega)) (fun c12 => ?_)
  refine wp_go rfl rfl ?_
  refine e_iflt rfl (fun c16 => absurd c16 (by omega)) (fun c16 => ?_)
  refine wp_go rfl rfl ?_
  refine wp_go rfl rfl ?_
  refine e_alen rfl Ht rfl (by omega) ?_
  refine e_cge rfl (fun c22 => absurd c22 (by omega)) (fun c22 => ?_)
  refine wp_go rfl rfl ?_
  refine wp_go rfl rfl ?_
  refine e_ald rfl Ht rfl (by omega) ?_
  refine wp_go rfl rfl ?_
  refine e_irem rfl (by decide) ?_
  refine e_ist (L' := [xR 24, xR t, xI (a : Int), xI i, xI (Int.tmod (wd (Int.toNat (a : Int))) 64), l5]) rfl rfl rfl ?_
  rw [hm]
  refine wp_go rfl rfl ?_
  refine wp_go rfl rfl ?_
  refine e_ald rfl Ht rfl (by omega) ?_
  refine wp_go rfl rfl ?_
  refine e_idiv rfl (by decide) (by rw [hd]; omega) ?_
  refine e_ist (L' := [xR 24, xR t, xI (a : Int), xI i, xI 40, xI (Int.tdiv (wd (Int.toNat (a : Int))) 64)]) rfl rfl rfl ?_
  rw [hd]
  refine e_inc (L' := [xR 24, xR t, xI ((a : Int) + 1), xI i, xI 40, xI nb]) rfl rfl (by omega) rfl ?_
  refine wp_go rfl rfl ?_
  refine wp_go rfl rfl ?_
  refine wp_go rfl rfl ?_
  refine wp_go rfl rfl ?_
  refine wp_go rfl rfl ?_
  refine wp_go rfl rfl ?_
  refine wp_go rfl rfl ?_
  refine wp_go rfl rfl ?_
  refine wp_go rfl rfl ?_
  refine wp_go rfl rfl ?_
  refine wp_go rfl rfl ?_
  refine wp_go rfl rfl ?_
  refine wp_cv rfl rfl rfl H24 rfl rfl rfl ?_
  refine c_work40 H24 H25 H26 hh hv (fun x y hy hx => ?_)
  refine e_inc (L' := [xR 24, xR t, xI ((a : Int) + 1), xI (i + 1), xI 40, xI nb]) rfl rfl (by omega) rfl ?_
  refine wp_go rfl rfl ?_
  exact k x y hy hx
set_option maxRecDepth 100000 in
theorem v_41 {d : Nat} {h : hc_H} {Q : List hc_V → hc_H → Prop} {t n a : Nat} {ht i nb : Int} {wd nm vs : Nat → Int} {l4 l5 : hc_V} (Ht : h.2.2 t = ar n wd) (H24 : h.2.2 24 = wk ht) (H25 : h.2.2 25 = ar 64 nm) (H26 : h.2.2 26 = ar 64 vs) (ht91 : 91 ≤ t) (hn : n ≤ 300) (han : a < n) (hi : 0 ≤ i ∧ i ≤ (a : Int)) (hwd : wd a = nb * 64 + 41) (hnb : 0 ≤ nb ∧ nb ≤ 10000) (hh : 1 < ht ∧ ht ≤ 64) (hv : ∀ j : Nat, j < Int.toNat ht → -1000000 ≤ vs j ∧ vs j ≤ 1000000) (k : ∀ x y : Int, y = vs (Int.toNat (ht - 1)) → x = vs (Int.toNat (ht - 1 - 1)) → hc_wp (d + 2) mX8_value 9 [xR 24, xR t, xI ((a : Int) + 1), xI (i + 1), xI 41, xI nb] [] (hc_wr (hc_wr h 26 (ar 64 (hc_u vs (Int.toNat (ht - 1 - 1)) (clp (if x ≤ y then 1 else 0))))) 24 (wk (ht - 1))) Q) : hc_wp (d + 2) mX8_value 9 [xR 24, xR t, xI (a : Int), xI i, l4, l5] [] h Q := by
  have hw : wd (Int.toNat (a : Int)) = nb * 64 + 41 := hwd
  obtain ⟨hm, hd⟩ := wd_m hw hnb.1 (by decide) (by decide)
  refine wp_go rfl rfl ?_
  refine wp_go rfl rfl ?_
  refine e_alen rfl Ht rfl (by omega) ?_
  refine e_cge rfl (fun c12 => absurd c12 (by omega)) (fun c12 => ?_)
  refine wp_go rfl rfl ?_
  refine e_iflt rfl (fun c16 => absurd c16 (by omega)) (fun c16 => ?_)
  refine wp_go rfl rfl ?_
  refine wp_go rfl rfl ?_
  refine e_alen rfl Ht rfl (by omega) ?_
  refine e_cge rfl (fun c22 => absurd c22 (by omega)) (fun c22 => ?_)
  refine wp_go rfl rfl ?_
  refine wp_go rfl rfl ?_
  refine e_ald rfl Ht rfl (by omega) ?_
  refine wp_go rfl rfl ?_
  refine e_irem rfl (by decide) ?_
  refine e_ist (L' := [xR 24, xR t, xI (a : Int), xI i, xI (Int.tmod (wd (Int.toNat (a : Int))) 64), l5]) rfl rfl rfl ?_
  rw [hm]
  refine wp_go rfl rfl ?_
  refine wp_go rfl rfl ?_
  refine e_ald rfl Ht rfl (by omega) ?_
  refine wp_go rfl rfl ?_
  refine e_idiv rfl (by decide) (by rw [hd]; omega) ?_
  refine e_ist (L' := [xR 24, xR t, xI (a : Int), xI i, xI 41, xI (Int.tdiv (wd (Int.toNat (a : Int))) 64)]) rfl rfl rfl ?_
  rw [hd]
  refine e_inc (L' := [xR 24, xR t, xI ((a : Int) + 1), xI i, xI 41, xI nb]) rfl rfl (by omega) rfl ?_
  refine wp_go rfl rfl ?_
  refine wp_go rfl rfl ?_
  refine wp_go rfl rfl ?_
  refine wp_go rfl rfl ?_
  refine wp_go rfl rfl ?_
  refine wp_go rfl rfl ?_
  refine wp_go rfl rfl ?_
  refine wp_go rfl rfl ?_
  refine wp_go rfl rfl ?_
  refine wp_go rfl rfl ?_
  refine wp_go rfl rfl ?_
  refine wp_go rfl rfl ?_
  refine wp_cv rfl rfl rfl H24 rfl rfl rfl ?_
  refine c_work41 H24 H25 H26 hh hv (fun x y hy hx => ?_)
  refine e_inc (L' := [xR 24, xR t, xI ((a : Int) + 1), xI (i + 1), xI 41, xI nb]) rfl rfl (by omega) rfl ?_
  refine wp_go rfl rfl ?_
  exact k x y hy hx
set_option maxRecDepth 100000 in
theorem v_42 {d : Nat} {h : hc_H} {Q : List hc_V → hc_H → Prop} {t n a : Nat} {ht i nb : Int} {wd nm vs : Nat → Int} {l4 l5 : hc_V} (Ht : h.2.2 t = ar n wd) (H24 : h.2.2 24 = wk ht) (H25 : h.2.2 25 = ar 64 nm) (H26 : h.2.2 26 = ar 64 vs) (ht91 : 91 ≤ t) (hn : n ≤ 300) (han : a < n) (hi : 0 ≤ i ∧ i ≤ (a : Int)) (hwd : wd a = nb * 64 + 42) (hnb : 0 ≤ nb ∧ nb ≤ 10000) (hh : 1 < ht ∧ ht ≤ 64) (hv : ∀ j : Nat, j < Int.toNat ht → -1000000 ≤ vs j ∧ vs j ≤ 1000000) (k : ∀ x y : Int, y = vs (Int.toNat (ht - 1)) → x = vs (Int.toNat (ht - 1 - 1)) → hc_wp (d + 2) mX8_value 9 [xR 24, xR t, xI ((a : Int) + 1), xI (i + 1), xI 42, xI nb] [] (hc_wr (hc_wr h 26 (ar 64 (hc_u vs (Int.toNat (ht - 1 - 1)) (clp (if y < x then 1 else 0))))) 24 (wk (ht - 1))) Q) : hc_wp (d + 2) mX8_value 9 [xR 24, xR t, xI (a : Int), xI i, l4, l5] [] h Q := by
  have hw : wd (Int.toNat (a : Int)) = nb * 64 + 42 := hwd
  obtain ⟨hm, hd⟩ := wd_m hw hnb.1 (by decide) (by decide)
  refine wp_go rfl rfl ?_
  refine wp_go rfl rfl ?_
  refine e_alen rfl Ht rfl (by omega) ?_
  refine e_cge rfl (fun c12 => absurd c12 (by omega)) (fun c12 => ?_)
  refine wp_go rfl rfl ?_
  refine e_iflt rfl (fun c16 => absurd c16 (by omega)) (fun c16 => ?_)
  refine wp_go rfl rfl ?_
  refine wp_go rfl rfl ?_
  refine e_alen rfl Ht rfl (by omega) ?_
  refine e_cge rfl (fun c22 => absurd c22 (by omega)) (fun c22 => ?_)
  refine wp_go rfl rfl ?_
  refine wp_go rfl rfl ?_
  refine e_ald rfl Ht rfl (by omega) ?_
  refine wp_go rfl rfl ?_
  refine e_irem rfl (by decide) ?_
  refine e_ist (L' := [xR 24, xR t, xI (a : Int), xI i, xI (Int.tmod (wd (Int.toNat (a : Int))) 64), l5]) rfl rfl rfl ?_
  rw [hm]
  refine wp_go rfl rfl ?_
  refine wp_go rfl rfl ?_
  refine e_ald rfl Ht rfl (by omega) ?_
  refine wp_go rfl rfl ?_
  refine e_idiv rfl (by decide) (by rw [hd]; omega) ?_
  refine e_ist (L' := [xR 24, xR t, xI (a : Int), xI i, xI 42, xI (Int.tdiv (wd (Int.toNat (a : Int))) 64)]) rfl rfl rfl ?_
  rw [hd]
  refine e_inc (L' := [xR 24, xR t, xI ((a : Int) + 1), xI i, xI 42, xI nb]) rfl rfl (by omega) rfl ?_
  refine wp_go rfl rfl ?_
  refine wp_go rfl rfl ?_
  refine wp_go rfl rfl ?_
  refine wp_go rfl rfl ?_
  refine wp_go rfl rfl ?_
  refine wp_go rfl rfl ?_
  refine wp_go rfl rfl ?_
  refine wp_go rfl rfl ?_
  refine wp_go rfl rfl ?_
  refine wp_go rfl rfl ?_
  refine wp_go rfl rfl ?_
  refine wp_go rfl rfl ?_
  refine wp_cv rfl rfl rfl H24 rfl rfl rfl ?_
  refine c_work42 H24 H25 H26 hh hv (fun x y hy hx => ?_)
  refine e_inc (L' := [xR 24, xR t, xI ((a : Int) + 1), xI (i + 1), xI 42, xI nb]) rfl rfl (by omega) rfl ?_
  refine wp_go rfl rfl ?_
  exact k x y hy hx
set_option maxRecDepth 100000 in
theorem v_43 {d : Nat} {h : hc_H} {Q : List hc_V → hc_H → Prop} {t n a : Nat} {ht i nb : Int} {wd nm vs : Nat → Int} {l4 l5 : hc_V} (Ht : h.2.2 t = ar n wd) (H24 : h.2.2 24 = wk ht) (H25 : h.2.2 25 = ar 64 nm) (H26 : h.2.2 26 = ar 64 vs) (ht91 : 91 ≤ t) (hn : n ≤ 300) (han : a < n) (hi : 0 ≤ i ∧ i ≤ (a : Int)) (hwd : wd a = nb * 64 + 43) (hnb : 0 ≤ nb ∧ nb ≤ 10000) (hh : 1 < ht ∧ ht ≤ 64) (hv : ∀ j : Nat, j < Int.toNat ht → -1000000 ≤ vs j ∧ vs j ≤ 1000000) (k : ∀ x y : Int, y = vs (Int.toNat (ht - 1)) → x = vs (Int.toNat (ht - 1 - 1)) → hc_wp (d + 2) mX8_value 9 [xR 24, xR t, xI ((a : Int) + 1), xI (i + 1), xI 43, xI nb] [] (hc_wr (hc_wr h 26 (ar 64 (hc_u vs (Int.toNat (ht - 1 - 1)) (clp (if y ≤ x then 1 else 0))))) 24 (wk (ht - 1))) Q) : hc_wp (d + 2) mX8_value 9 [xR 24, xR t, xI (a : Int), xI i, l4, l5] [] h Q := by
  have hw : wd (Int.toNat (a : Int)) = nb * 64 + 43 := hwd
  obtain ⟨hm, hd⟩ := wd_m hw hnb.1 (by decide) (by decide)
  refine wp_go rfl rfl ?_
  refine wp_go rfl rfl ?_
  refine e_alen rfl Ht rfl (by omega) ?_
  refine e_cge rfl (fun c12 => absurd c12 (by omega)) (fun c12 => ?_)
  refine wp_go rfl rfl ?_
  refine e_iflt rfl (fun c16 => absurd c16 (by omega)) (fun c16 => ?_)
  refine wp_go rfl rfl ?_
  refine wp_go rfl rfl ?_
  refine e_alen rfl Ht rfl (by omega) ?_
  refine e_cge rfl (fun c22 => absurd c22 (by omega)) (fun c22 => ?_)
  refine wp_go rfl rfl ?_
  refine wp_go rfl rfl ?_
  refine e_ald rfl Ht rfl (by omega) ?_
  refine wp_go rfl rfl ?_
  refine e_irem rfl (by decide) ?_
  refine e_ist (L' := [xR 24, xR t, xI (a : Int), xI i, xI (Int.tmod (wd (Int.toNat (a : Int))) 64), l5]) rfl rfl rfl ?_
  rw [hm]
  refine wp_go rfl rfl ?_
  refine wp_go rfl rfl ?_
  refine e_ald rfl Ht rfl (by omega) ?_
  refine wp_go rfl rfl ?_
  refine e_idiv rfl (by decide) (by rw [hd]; omega) ?_
  refine e_ist (L' := [xR 24, xR t, xI (a : Int), xI i, xI 43, xI (Int.tdiv (wd (Int.toNat (a : Int))) 64)]) rfl rfl rfl ?_
  rw [hd]
  refine e_inc (L' := [xR 24, xR t, xI ((a : Int) + 1), xI i, xI 43, xI nb]) rfl rfl (by omega) rfl ?_
  refine wp_go rfl rfl ?_
  refine wp_go rfl rfl ?_
  refine wp_go rfl rfl ?_
  refine wp_go rfl rfl ?_
  refine wp_go rfl rfl ?_
  refine wp_go rfl rfl ?_
  refine wp_go rfl rfl ?_
  refine wp_go rfl rfl ?_
  refine wp_go rfl rfl ?_
  refine wp_go rfl rfl ?_
  refine wp_go rfl rfl ?_
  refine wp_go rfl rfl ?_
  refine wp_cv rfl rfl rfl H24 rfl rfl rfl ?_
  refine c_work43 H24 H25 H26 hh hv (fun x y hy hx => ?_)
  refine e_inc (L' := [xR 24, xR t, xI ((a : Int) + 1), xI (i + 1), xI 43, xI nb]) rfl rfl (by omega) rfl ?_
  refine wp_go rfl rfl ?_
  exact k x y hy hx
set_option maxRecDepth 100000 in
theorem v_44 {d : Nat} {h : hc_H} {Q : List hc_V → hc_H → Prop} {t n a : Nat} {ht i nb : Int} {wd nm vs : Nat → Int} {l4 l5 : hc_V} (Ht : h.2.2 t = ar n wd) (H24 : h.2.2 24 = wk ht) (H25 : h.2.2 25 = ar 64 nm) (H26 : h.2.2 26 = ar 64 vs) (ht91 : 91 ≤ t) (hn : n ≤ 300) (han : a < n) (hi : 0 ≤ i ∧ i ≤ (a : Int)) (hwd : wd a = nb * 64 + 44) (hnb : 0 ≤ nb ∧ nb ≤ 10000) (hh : 1 < ht ∧ ht ≤ 64) (hv : ∀ j : Nat, j < Int.toNat ht → -1000000 ≤ vs j ∧ vs j ≤ 1000000) (k : ∀ x y : Int, y = vs (Int.toNat (ht - 1)) → x = vs (Int.toNat (ht - 1 - 1)) → hc_wp (d + 2) mX8_value 9 [xR 24, xR t, xI ((a : Int) + 1), xI (i + 1), xI 44, xI nb] [] (hc_wr (hc_wr h 26 (ar 64 (hc_u vs (Int.toNat (ht - 1 - 1)) (clp (if x = y then 1 else 0))))) 24 (wk (ht - 1))) Q) : hc_wp (d + 2) mX8_value 9 [xR 24, xR t, xI (a : Int), xI i, l4, l5] [] h Q := by
  have hw : wd (Int.toNat (a : Int)) = nb * 64 + 44 := hwd
  obtain ⟨hm, hd⟩ := wd_m hw hnb.1 (by decide) (by decide)
  refine wp_go rfl rfl ?_
  refine wp_go rfl rfl ?_
  refine e_alen rfl Ht rfl (by omega) ?_
  refine e_cge rfl (fun c12 => absurd c12 (by omega)) (fun c12 => ?_)
  refine wp_go rfl rfl ?_
  refine e_iflt rfl (fun c16 => absurd c16 (by omega)) (fun c16 => ?_)
  refine wp_go rfl rfl ?_
  refine wp_go rfl rfl ?_
  refine e_alen rfl Ht rfl (by omega) ?_
  refine e_cge rfl (fun c22 => absurd c22 (by omega)) (fun c22 => ?_)
  refine wp_go rfl rfl ?_
  refine wp_go rfl rfl ?_
  refine e_ald rfl Ht rfl (by omega) ?_
  refine wp_go rfl rfl ?_
  refine e_irem rfl (by decide) ?_
  refine e_ist (L' := [xR 24, xR t, xI (a : Int), xI i, xI (Int.tmod (wd (Int.toNat (a : Int))) 64), l5]) rfl rfl rfl ?_
  rw [hm]
  refine wp_go rfl rfl ?_
  refine wp_go rfl rfl ?_
  refine e_ald rfl Ht rfl (by omega) ?_
  refine wp_go rfl rfl ?_
  refine e_idiv rfl (by decide) (by rw [hd]; omega) ?_
  refine e_ist (L' := [xR 24, xR t, xI (a : Int), xI i, xI 44, xI (Int.tdiv (wd (Int.toNat (a : Int))) 64)]) rfl rfl rfl ?_
  rw [hd]
  refine e_inc (L' := [xR 24, xR t, xI ((a : Int) + 1), xI i, xI 44, xI nb]) rfl rfl (by omega) rfl ?_
  refine wp_go rfl rfl ?_
  refine wp_go rfl rfl ?_
  refine wp_go rfl rfl ?_
  refine wp_go rfl rfl ?_
  refine wp_go rfl rfl ?_
  refine wp_go rfl rfl ?_
  refine wp_go rfl rfl ?_
  refine wp_go rfl rfl ?_
  refine wp_go rfl rfl ?_
  refine wp_go rfl rfl ?_
  refine wp_go rfl rfl ?_
  refine wp_go rfl rfl ?_
  refine wp_cv rfl rfl rfl H24 rfl rfl rfl ?_
  refine c_work44 H24 H25 H26 hh hv (fun x y hy hx => ?_)
  refine e_inc (L' := [xR 24, xR t, xI ((a : Int) + 1), xI (i + 1), xI 44, xI nb]) rfl rfl (by omega) rfl ?_
  refine wp_go rfl rfl ?_
  exact k x y hy hx
set_option maxRecDepth 100000 in
theorem v_45 {d : Nat} {h : hc_H} {Q : List hc_V → hc_H → Prop} {t n a : Nat} {ht i nb : Int} {wd nm vs : Nat → Int} {l4 l5 : hc_V} (Ht : h.2.2 t = ar n wd) (H24 : h.2.2 24 = wk ht) (H25 : h.2.2 25 = ar 64 nm) (H26 : h.2.2 26 = ar 64 vs) (ht91 : 91 ≤ t) (hn : n ≤ 300) (han : a < n) (hi : 0 ≤ i ∧ i ≤ (a : Int)) (hwd : wd a = nb * 64 + 45) (hnb : 0 ≤ nb ∧ nb ≤ 10000) (hh : 1 < ht ∧ ht ≤ 64) (hv : ∀ j : Nat, j < Int.toNat ht → -1000000 ≤ vs j ∧ vs j ≤ 1000000) (k : ∀ x y : Int, y = vs (Int.toNat (ht - 1)) → x = vs (Int.toNat (ht - 1 - 1)) → hc_wp (d + 2) mX8_value 9 [xR 24, xR t, xI ((a : Int) + 1), xI (i + 1), xI 45, xI nb] [] (hc_wr (hc_wr h 26 (ar 64 (hc_u vs (Int.toNat (ht - 1 - 1)) (clp (if ¬ x = y then 1 else 0))))) 24 (wk (ht - 1))) Q) : hc_wp (d + 2) mX8_value 9 [xR 24, xR t, xI (a : Int), xI i, l4, l5] [] h Q := by
  have hw : wd (Int.toNat (a : Int)) = nb * 64 + 45 := hwd
  obtain ⟨hm, hd⟩ := wd_m hw hnb.1 (by decide) (by decide)
  refine wp_go rfl rfl ?_
  refine wp_go rfl rfl ?_
  refine e_alen rfl Ht rfl (by omega) ?_
  refine e_cge rfl (fun c12 => absurd c12 (by omega)) (fun c12 => ?_)
  refine wp_go rfl rfl ?_
  refine e_iflt rfl (fun c16 => absurd c16 (by omega)) (fun c16 => ?_)
  refine wp_go rfl rfl ?_
  refine wp_go rfl rfl ?_
  refine e_alen rfl Ht rfl (by omega) ?_
  refine e_cge rfl (fun c22 => absurd c22 (by omega)) (fun c22 => ?_)
  refine wp_go rfl rfl ?_
  refine wp_go rfl rfl ?_
  refine e_ald rfl Ht rfl (by omega) ?_
  refine wp_go rfl rfl ?_
  refine e_irem rfl (by decide) ?_
  refine e_ist (L' := [xR 24, xR t, xI (a : Int), xI i, xI (Int.tmod (wd (Int.toNat (a : Int))) 64), l5]) rfl rfl rfl ?_
  rw [hm]
  refine wp_go rfl rfl ?_
  refine wp_go rfl rfl ?_
  refine e_ald rfl Ht rfl (by omega) ?_
  refine wp_go rfl rfl ?_
  refine e_idiv rfl (by decide) (by rw [hd]; omega) ?_
  refine e_ist (L' := [xR 24, xR t, xI (a : Int), xI i, xI 45, xI (Int.tdiv (wd (Int.toNat (a : Int))) 64)]) rfl rfl rfl ?_
  rw [hd]
  refine e_inc (L' := [xR 24, xR t, xI ((a : Int) + 1), xI i, xI 45, xI nb]) rfl rfl (by omega) rfl ?_
  refine wp_go rfl rfl ?_
  refine wp_go rfl rfl ?_
  refine wp_go rfl rfl ?_
  refine wp_go rfl rfl ?_
  refine wp_go rfl rfl ?_
  refine wp_go rfl rfl ?_
  refine wp_go rfl rfl ?_
  refine wp_go rfl rfl ?_
  refine wp_go rfl rfl ?_
  refine wp_go rfl rfl ?_
  refine wp_go rfl rfl ?_
  refine wp_go rfl rfl ?_
  refine wp_cv rfl rfl rfl H24 rfl rfl rfl ?_
  refine c_work45 H24 H25 H26 hh hv (fun x y hy hx => ?_)
  refine e_inc (L' := [xR 24, xR t, xI ((a : Int) + 1), xI (i + 1), xI 45, xI nb]) rfl rfl (by omega) rfl ?_
  refine wp_go rfl rfl ?_
  exact k x y hy hx
set_option maxRecDepth 100000 in
theorem v_20 {d : Nat} {h : hc_H} {Q : List hc_V → hc_H → Prop} {t n a : Nat} {ht i nb : Int} {wd nm vs : Nat → Int} {l4 l5 : hc_V} (Ht : h.2.2 t = ar n wd) (H24 : h.2.2 24 = wk ht) (H25 : h.2.2 25 = ar 64 nm) (H26 : h.2.2 26 = ar 64 vs) (ht91 : 91 ≤ t) (hn : n ≤ 300) (han : a < n) (hi : 0 ≤ i ∧ i ≤ (a : Int)) (hwd : wd a = nb * 64 + 20) (hnb : 0 ≤ nb ∧ nb ≤ 10000) (hh : 1 < ht ∧ ht ≤ 64) (hv : ∀ j : Nat, j < Int.toNat ht → -1000000 ≤ vs j ∧ vs j ≤ 1000000) (k : ∀ x y : Int, y = vs (Int.toNat (ht - 1)) → x = vs (Int.toNat (ht - 1 - 1)) → hc_wp (d + 2) mX8_value 9 [xR 24, xR t, xI ((a : Int) + 1), xI (i + 1), xI 20, xI nb] [] (hc_wr (hc_wr h 26 (ar 64 (hc_u vs (Int.toNat (ht - 1 - 1)) (clp (if 0 < x + y then 1 else 0))))) 24 (wk (ht - 1))) Q) : hc_wp (d + 2) mX8_value 9 [xR 24, xR t, xI (a : Int), xI i, l4, l5] [] h Q := by
  have hw : wd (Int.toNat (a : Int)) = nb * 64 + 20 := hwd
  obtain ⟨hm, hd⟩ := wd_m hw hnb.1 (by decide) (by decide)
  refine wp_go rfl rfl ?_
  refine wp_go rfl rfl ?_
  refine e_alen rfl Ht rfl (by omega) ?_
  refine e_cge rfl (fun c12 => absurd c12 (by omega)) (fun c12 => ?_)
  refine wp_go rfl rfl ?_
  refine e_iflt rfl (fun c16 => absurd c16 (by omega)) (fun c16 => ?_)
  refine wp_go rfl rfl ?_
  refine wp_go rfl rfl ?_
  refine e_alen rfl Ht rfl (by omega) ?_
  refine e_cge rfl (fun c22 => absurd c22 (by omega)) (fun c22 => ?_)
  refine wp_go rfl rfl ?_
  refine wp_go rfl rfl ?_
  refine e_ald rfl Ht rfl (by omega) ?_
  refine wp_go rfl rfl ?_
  refine e_irem rfl (by decide) ?_
  refine e_ist (L' := [xR 24, xR t, xI (a : Int), xI i, xI (Int.tmod (wd (Int.toNat (a : Int))) 64), l5]) rfl rfl rfl ?_
  rw [hm]
  refine wp_go rfl rfl ?_
  refine wp_go rfl rfl ?_
  refine e_ald rfl Ht rfl (by omega) ?_
  refine wp_go rfl rfl ?_
  refine e_idiv rfl (by decide) (by rw [hd]; omega) ?_
  refine e_ist (L' := [xR 24, xR t, xI (a : Int), xI i, xI 20, xI (Int.tdiv (wd (Int.toNat (a : Int))) 64)]) rfl rfl rfl ?_
  rw [hd]
  refine e_inc (L' := [xR 24, xR t, xI ((a : Int) + 1), xI i, xI 20, xI nb]) rfl rfl (by omega) rfl ?_
  refine wp_go rfl rfl ?_
  refine wp_go rfl rfl ?_
  refine wp_go rfl rfl ?_
  refine wp_go rfl rfl ?_
  refine wp_go rfl rfl ?_
  refine wp_go rfl rfl ?_
  refine wp_go rfl rfl ?_
  refine wp_go rfl rfl ?_
  refine wp_go rfl rfl ?_
  refine wp_go rfl rfl ?_
  refine wp_go rfl rfl ?_
  refine wp_go rfl rfl ?_
  refine wp_cv rfl rfl rfl H24 rfl rfl rfl ?_
  refine c_work20 H24 H25 H26 hh hv (fun x y hy hx => ?_)
  refine e_inc (L' := [xR 24, xR t, xI ((a : Int) + 1), xI (i + 1), xI 20, xI nb]) rfl rfl (by omega) rfl ?_
  refine wp_go rfl rfl ?_
  exact k x y hy hx
set_option maxRecDepth 100000 in
theorem v_21 {d : Nat} {h : hc_H} {Q : List hc_V → hc_H → Prop} {t n a : Nat} {ht i nb : Int} {wd nm vs : Nat → Int} {l4 l5 : hc_V} (Ht : h.2.2 t = ar n wd) (H24 : h.2.2 24 = wk ht) (H25 : h.2.2 25 = ar 64 nm) (H26 : h.2.2 26 = ar 64 vs) (ht91 : 91 ≤ t) (hn : n ≤ 300) (han : a < n) (hi : 0 ≤ i ∧ i ≤ (a : Int)) (hwd : wd a = nb * 64 + 21) (hnb : 0 ≤ nb ∧ nb ≤ 10000) (hh : 1 < ht ∧ ht ≤ 64) (hv : ∀ j : Nat, j < Int.toNat ht → -1000000 ≤ vs j ∧ vs j ≤ 1000000) (k : ∀ x y : Int, y = vs (Int.toNat (ht - 1)) → x = vs (Int.toNat (ht - 1 - 1)) → hc_wp (d + 2) mX8_value 9 [xR 24, xR t, xI ((a : Int) + 1), xI (i + 1), xI 21, xI nb] [] (hc_wr (hc_wr h 26 (ar 64 (hc_u vs (Int.toNat (ht - 1 - 1)) (clp (if 1 < x + y then 1 else 0))))) 24 (wk (ht - 1))) Q) : hc_wp (d + 2) mX8_value 9 [xR 24, xR t, xI (a : Int), xI i, l4, l5] [] h Q := by
  have hw : wd (Int.toNat (a : Int)) = nb * 64 + 21 := hwd
  obtain ⟨hm, hd⟩ := wd_m hw hnb.1 (by decide) (by decide)
  refine wp_go rfl rfl ?_
  refine wp_go rfl rfl ?_
  refine e_alen rfl Ht rfl (by omega) ?_
  refine e_cge rfl (fun c12 => absurd c12 (by omega)) (fun c12 => ?_)
  refine wp_go rfl rfl ?_
  refine e_iflt rfl (fun c16 => absurd c16 (by omega)) (fun c16 => ?_)
  refine wp_go rfl rfl ?_
  refine wp_go rfl rfl ?_
  refine e_alen rfl Ht rfl (by omega) ?_
  refine e_cge rfl (fun c22 => absurd c22 (by omega)) (fun c22 => ?_)
  refine wp_go rfl rfl ?_
  refine wp_go rfl rfl ?_
  refine e_ald rfl Ht rfl (by omega) ?_
  refine wp_go rfl rfl ?_
  refine e_irem rfl (by decide) ?_
  refine e_ist (L' := [xR 24, xR t, xI (a : Int), xI i, xI (Int.tmod (wd (Int.toNat (a : Int))) 64), l5]) rfl rfl rfl ?_
  rw [hm]
  refine wp_go rfl rfl ?_
  refine wp_go rfl rfl ?_
  refine e_ald rfl Ht rfl (by omega) ?_
  refine wp_go rfl rfl ?_
  refine e_idiv rfl (by decide) (by rw [hd]; omega) ?_
  refine e_ist (L' := [xR 24, xR t, xI (a : Int), xI i, xI 21, xI (Int.tdiv (wd (Int.toNat (a : Int))) 64)]) rfl rfl rfl ?_
  rw [hd]
  refine e_inc (L' := [xR 24, xR t, xI ((a : Int) + 1), xI i, xI 21, xI nb]) rfl rfl (by omega) rfl ?_
  refine wp_go rfl rfl ?_
  refine wp_go rfl rfl ?_
  refine wp_go rfl rfl ?_
  refine wp_go rfl rfl ?_
  refine wp_go rfl rfl ?_
  refine wp_go rfl rfl ?_
  refine wp_go rfl rfl ?_
  refine wp_go rfl rfl ?_
  refine wp_go rfl rfl ?_
  refine wp_go rfl rfl ?_
  refine wp_go rfl rfl ?_
  refine wp_go rfl rfl ?_
  refine wp_cv rfl rfl rfl H24 rfl rfl rfl ?_
  refine c_work21 H24 H25 H26 hh hv (fun x y hy hx => ?_)
  refine e_inc (L' := [xR 24, xR t, xI ((a : Int) + 1), xI (i + 1), xI 21, xI nb]) rfl rfl (by omega) rfl ?_
  refine wp_go rfl rfl ?_
  exact k x y hy hx
set_option maxRecDepth 100000 in
theorem v_54 {d : Nat} {h : hc_H} {Q : List hc_V → hc_H → Prop} {t n a : Nat} {ht i nb : Int} {wd nm vs : Nat → Int} {l4 l5 : hc_V} (Ht : h.2.2 t = ar n wd) (H24 : h.2.2 24 = wk ht) (H25 : h.2.2 25 = ar 64 nm) (H26 : h.2.2 26 = ar 64 vs) (ht91 : 91 ≤ t) (hn : n ≤ 300) (han : a < n) (hi : 0 ≤ i ∧ i ≤ (a : Int)) (hwd : wd a = nb * 64 + 54) (hnb : 0 ≤ nb ∧ nb ≤ 10000) (k : hc_wp (d + 2) mX8_value 9 [xR 24, xR t, xI nb, xI (i + 1), xI 54, xI nb] [] h Q) : hc_wp (d + 2) mX8_value 9 [xR 24, xR t, xI (a : Int), xI i, l4, l5] [] h Q := by
  have hw : wd (Int.toNat (a : Int)) = nb * 64 + 54 := hwd
  obtain ⟨hm, hd⟩ := wd_m hw hnb.1 (by decide) (by decide)
  refine wp_go rfl rfl ?_
  refine wp_go rfl rfl ?_
  refine e_alen rfl Ht rfl (by omega) ?_
  refine e_cge rfl (fun c12 => absurd c12 (by omega)) (fun c12 => ?_)
  refine wp_go rfl rfl ?_
  refine e_iflt rfl (fun c16 => absurd c16 (by omega)) (fun c16 => ?_)
  refine wp_go rfl rfl ?_
  refine wp_go rfl rfl ?_
  refine e_alen rfl Ht rfl (by omega) ?_
  refine e_cge rfl (fun c22 => absurd c22 (by omega)) (fun c22 => ?_)
  refine wp_go rfl rfl ?_
  refine wp_go rfl rfl ?_
  refine e_ald rfl Ht rfl (by omega) ?_
  refine wp_go rfl rfl ?_
  refine e_irem rfl (by decide) ?_
  refine e_ist (L' := [xR 24, xR t, xI (a : Int), xI i, xI (Int.tmod (wd (Int.toNat (a : Int))) 64), l5]) rfl rfl rfl ?_
  rw [hm]
  refine wp_go rfl rfl ?_
  refine wp_go rfl rfl ?_
  refine e_ald rfl Ht rfl (by omega) ?_
  refine wp_go rfl rfl ?_
  refine e_idiv rfl (by decide) (by rw [hd]; omega) ?_
  refine e_ist (L' := [xR 24, xR t, xI (a : Int), xI i, xI 54, xI (Int.tdiv (wd (Int.toNat (a : Int))) 64)]) rfl rfl rfl ?_
  rw [hd]
  refine e_inc (L' := [xR 24, xR t, xI ((a : Int) + 1), xI i, xI 54, xI nb]) rfl rfl (by omega) rfl ?_
  refine wp_go rfl rfl ?_
  refine wp_go rfl rfl ?_
  refine wp_go rfl rfl ?_
  refine wp_go rfl rfl ?_
  refine e_istn (L' := [xR 24, xR t, xI nb, xI i, xI 54, xI nb]) rfl rfl rfl ?_
  refine wp_go rfl rfl ?_
  refine e_inc (L' := [xR 24, xR t, xI nb, xI (i + 1), xI 54, xI nb]) rfl rfl (by omega) rfl ?_
  refine wp_go rfl rfl ?_
  exact k
set_option maxRecDepth 100000 in
theorem v_53 {d : Nat} {h : hc_H} {Q : List hc_V → hc_H → Prop} {t n a : Nat} {ht i nb : Int} {wd nm vs : Nat → Int} {l4 l5 : hc_V} (Ht : h.2.2 t = ar n wd) (H24 : h.2.2 24 = wk ht) (H25 : h.2.2 25 = ar 64 nm) (H26 : h.2.2 26 = ar 64 vs) (ht91 : 91 ≤ t) (hn : n ≤ 300) (han : a < n) (hi : 0 ≤ i ∧ i ≤ (a : Int)) (hwd : wd a = nb * 64 + 53) (hnb : 0 ≤ nb ∧ nb ≤ 10000) (hh : 0 < ht ∧ ht ≤ 64) (k0 : vs (Int.toNat (ht - 1)) = 0 → hc_wp (d + 2) mX8_value 9 [xR 24, xR t, xI nb, xI (i + 1), xI 53, xI nb] [] (hc_wr h 24 (wk (ht - 1))) Q) (k1 : ¬ vs (Int.toNat (ht - 1)) = 0 → hc_wp (d + 2) mX8_value 9 [xR 24, xR t, xI ((a : Int) + 1), xI (i + 1), xI 53, xI nb] [] (hc_wr h 24 (wk (ht - 1))) Q) : hc_wp (d + 2) mX8_value 9 [xR 24, xR t, xI (a : Int), xI i, l4, l5] [] h Q := by
  have hw : wd (Int.toNat (a : Int)) = nb * 64 + 53 := hwd
  obtain ⟨hm, hd⟩ := wd_m hw hnb.1 (by decide) (by decide)
  refine wp_go rfl rfl ?_
  refine wp_go rfl rfl ?_
  refine e_alen rfl Ht rfl (by omega) ?_
  refine e_cge rfl (fun c12 => absurd c12 (by omega)) (fun c12 => ?_)
  refine wp_go rfl rfl ?_
  refine e_iflt rfl (fun c16 => absurd c16 (by omega)) (fun c16 => ?_)
  refine wp_go rfl rfl ?_
  refine wp_go rfl rfl ?_
  refine e_alen rfl Ht rfl (by omega) ?_
  refine e_cge rfl (fun c22 => absurd c22 (by omega)) (fun c22 => ?_)
  refine wp_go rfl rfl ?_
  refine wp_go rfl rfl ?_
  refine e_ald rfl Ht rfl (by omega) ?_
  refine wp_go rfl rfl ?_
  refine e_irem rfl (by decide) ?_
  refine e_ist (L' := [xR 24, xR t, xI (a : Int), xI i, xI (Int.tmod (wd (Int.toNat (a : Int))) 64), l5]) rfl rfl rfl ?_
  rw [hm]
  refine wp_go rfl rfl ?_
  refine wp_go rfl rfl ?_
  refine e_ald rfl Ht rfl (by omega) ?_
  refine wp_go rfl rfl ?_
  refine e_idiv rfl (by decide) (by rw [hd]; omega) ?_
  refine e_ist (L' := [xR 24, xR t, xI (a : Int), xI i, xI 53, xI (Int.tdiv (wd (Int.toNat (a : Int))) 64)]) rfl rfl rfl ?_
  rw [hd]
  refine e_inc (L' := [xR 24, xR t, xI ((a : Int) + 1), xI i, xI 53, xI nb]) rfl rfl (by omega) rfl ?_
  refine wp_go rfl rfl ?_
  refine wp_go rfl rfl ?_
  refine wp_go rfl rfl ?_
  refine wp_go rfl rfl ?_
  refine wp_go rfl rfl ?_
  refine wp_go rfl rfl ?_
  refine wp_go rfl rfl ?_
  refine wp_cv rfl rfl rfl H24 rfl rfl rfl ?_
  refine c_pop H24 H26 hh ?_
  refine e_ifne rfl (fun c62 => ?_) (fun c62 => ?_)
  · skip
    refine wp_go rfl rfl ?_
    refine wp_go rfl rfl ?_
    refine wp_go rfl rfl ?_
    refine e_inc (L' := [xR 24, xR t, xI ((a : Int) + 1), xI (i + 1), xI 53, xI nb]) rfl rfl (by omega) rfl ?_
    refine wp_go rfl rfl ?_
    exact k1 (by omega)
  · skip
    refine wp_go rfl rfl ?_
    refine e_istn (L' := [xR 24, xR t, xI nb, xI i, xI 53, xI nb]) rfl rfl rfl ?_
    refine wp_go rfl rfl ?_
    refine e_inc (L' := [xR 24, xR t, xI nb, xI (i + 1), xI 53, xI nb]) rfl rfl (by omega) rfl ?_
    refine wp_go rfl rfl ?_
    exact k0 (by omega)
