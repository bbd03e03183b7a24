/-! constructors: the class -/
theorem hal_ne {h : hc_H} {n a : Nat} {v E : hc_E} (hn : a ≠ h.1) (hb : h.2.2 a = E) : (hc_al h n v).2.2 a = E := (al_ne hn).trans hb
set_option maxRecDepth 100000 in
theorem i_8_24 {d : Nat} {Q : List hc_V → hc_H → Prop} {sl : Nat} {f : Nat → hc_E} (HO : f 24 = .inr (8, [xN, xN, xI 0])) (k : ∀ h2 : hc_H, h2.1 = 27 → h2.2.1 ≤ sl + 128 → h2.2.2 24 = .inr (8, [xR 25, xR 26, xI 0]) → h2.2.2 25 = .inl (0, 64, .inl (fun _ => 0)) → h2.2.2 26 = .inl (0, 64, .inl (fun _ => 0)) → (∀ a, a < 24 → h2.2.2 a = f a) → Q [] h2) : hc_wp (d + 1) mX8_init 0 [xR 24] [] (25, sl, f) Q := by
  refine wp_go rfl rfl ?_
  refine wp_go rfl rfl ?_
  refine wp_go rfl rfl ?_
  refine wp_go rfl rfl ?_
  refine e_newa (t := 0) rfl rfl (by omega) ?_
  refine e_put (fs' := [xR 25, xN, xI 0]) rfl HO rfl rfl ?_
  refine wp_go rfl rfl ?_
  refine wp_go rfl rfl ?_
  refine e_newa (t := 0) rfl rfl (by omega) ?_
  refine e_put (fs' := [xR 25, xR 26, xI 0]) rfl rfl rfl rfl ?_
  refine wp_go rfl rfl ?_
  refine wp_go rfl rfl ?_
  refine e_put (fs' := [xR 25, xR 26, xI 0]) rfl rfl rfl rfl ?_
  refine wp_ret rfl rfl ?_
  refine k _ rfl ?_ rfl rfl rfl (fun a ha => ?_)
  · show sl + 64 + 64 ≤ sl + 128
    omega
  · exact (hw_ne (show a ≠ 24 by omega) (hw_ne (show a ≠ 24 by omega) (hal_ne (n := 0) (Nat.ne_of_lt (Nat.lt_of_lt_of_le ha (Nat.le_of_ble_eq_true rfl))) (hw_ne (show a ≠ 24 by omega) (hal_ne (n := 0) (Nat.ne_of_lt (Nat.lt_of_lt_of_le ha (Nat.le_of_ble_eq_true rfl))) rfl)))))
set_option maxRecDepth 100000 in
theorem i_4_30 {d : Nat} {Q : List hc_V → hc_H → Prop} {sl : Nat} {f : Nat → hc_E} (HO : f 30 = .inr (4, [xN, xI 0, xI 0])) (k : ∀ h2 : hc_H, h2.1 = 32 → h2.2.1 ≤ sl + 330 → h2.2.2 30 = .inr (4, [xR 31, xI 0, xI 0]) → h2.2.2 31 = .inl (0, 330, .inl (fun _ => 0)) → (∀ a, a < 30 → h2.2.2 a = f a) → Q [] h2) : hc_wp (d + 1) mX4_init 0 [xR 30] [] (31, sl, f) Q := by
  refine wp_go rfl rfl ?_
  refine wp_go rfl rfl ?_
  refine wp_go rfl rfl ?_
  refine wp_go rfl rfl ?_
  refine e_newa (t := 0) rfl rfl (by omega) ?_
  refine e_put (fs' := [xR 31, xI 0, xI 0]) rfl HO rfl rfl ?_
  refine wp_go rfl rfl ?_
  refine wp_go rfl rfl ?_
  refine e_put (fs' := [xR 31, xI 0, xI 0]) rfl rfl rfl rfl ?_
  refine wp_go rfl rfl ?_
  refine wp_go rfl rfl ?_
  refine e_put (fs' := [xR 31, xI 0, xI 0]) rfl rfl rfl rfl ?_
  refine wp_ret rfl rfl ?_
  refine k _ rfl ?_ rfl rfl (fun a ha => ?_)
  · show sl + 330 ≤ sl + 330
    omega
  · exact (hw_ne (show a ≠ 30 by omega) (hw_ne (show a ≠ 30 by omega) (hw_ne (show a ≠ 30 by omega) (hal_ne (n := 0) (Nat.ne_of_lt (Nat.lt_of_lt_of_le ha (Nat.le_of_ble_eq_true rfl))) rfl))))
set_option maxRecDepth 100000 in
theorem i_0_32 {d : Nat} {Q : List hc_V → hc_H → Prop} {sl : Nat} {f : Nat → hc_E} (HO : f 32 = .inr (0, [xN, xN, xN, xI 0])) (k : ∀ h2 : hc_H, h2.1 = 36 → h2.2.1 ≤ sl + 60 → h2.2.2 32 = .inr (0, [xR 33, xR 34, xR 35, xI 0]) → h2.2.2 33 = .inl (0, 20, .inl (fun _ => 0)) → h2.2.2 34 = .inl (0, 20, .inl (fun _ => 0)) → h2.2.2 35 = .inl (0, 20, .inl (fun _ => 0)) → (∀ a, a < 32 → h2.2.2 a = f a) → Q [] h2) : hc_wp (d + 1) mX0_init 0 [xR 32] [] (33, sl, f) Q := by
  refine wp_go rfl rfl ?_
  refine wp_go rfl rfl ?_
  refine wp_go rfl rfl ?_
  refine wp_go rfl rfl ?_
  refine e_newa (t := 0) rfl rfl (by omega) ?_
  refine e_put (fs' := [xR 33, xN, xN, xI 0]) rfl HO rfl rfl ?_
  refine wp_go rfl rfl ?_
  refine wp_go rfl rfl ?_
  refine e_newa (t := 0) rfl rfl (by omega) ?_
  refine e_put (fs' := [xR 33, xR 34, xN, xI 0]) rfl rfl rfl rfl ?_
  refine wp_go rfl rfl ?_
  refine wp_go rfl rfl ?_
  refine e_newa (t := 0) rfl rfl (by omega) ?_
  refine e_put (fs' := [xR 33, xR 34, xR 35, xI 0]) rfl rfl rfl rfl ?_
  refine wp_go rfl rfl ?_
  refine wp_go rfl rfl ?_
  refine e_put (fs' := [xR 33, xR 34, xR 35, xI 0]) rfl rfl rfl rfl ?_
  refine wp_ret rfl rfl ?_
  refine k _ rfl ?_ rfl rfl rfl rfl (fun a ha => ?_)
  · show sl + 20 + 20 + 20 ≤ sl + 60
    omega
  · exact (hw_ne (show a ≠ 32 by omega) (hw_ne (show a ≠ 32 by omega) (hal_ne (n := 0) (Nat.ne_of_lt (Nat.lt_of_lt_of_le ha (Nat.le_of_ble_eq_true rfl))) (hw_ne (show a ≠ 32 by omega) (hal_ne (n := 0) (Nat.ne_of_lt (Nat.lt_of_lt_of_le ha (Nat.le_of_ble_eq_true rfl))) (hw_ne (show a ≠ 32 by omega) (hal_ne (n := 0) (Nat.ne_of_lt (Nat.lt_of_lt_of_le ha (Nat.le_of_ble_eq_true rfl))) rfl)))))))
set_option maxRecDepth 100000 in
theorem i_7_23 {d : Nat} {Q : List hc_V → hc_H → Prop} {sl : Nat} {f : Nat → hc_E} (HO : f 23 = .inr (7, [xN, xI 0, xN, xN, xI 0, xI 0, xI 0, xI 0, xN, xI 0, xI 0, xN, xN, xN, xI 0])) (k : ∀ h2 : hc_H, h2.1 = 37 → h2.2.1 ≤ sl + 600 → h2.2.2 23 = .inr (7, [xR 24, xI 0, xR 27, xR 28, xI 0, xI 0, xI 23, xI 0, xR 29, xI 0, xI (-1), xR 30, xR 32, xR 36, xI 0]) → h2.2.2 24 = .inr (8, [xR 25, xR 26, xI 0]) → h2.2.2 25 = .inl (0, 64, .inl (fun _ => 0)) → h2.2.2 26 = .inl (0, 64, .inl (fun _ => 0)) → h2.2.2 27 = .inl (0, 8, .inl (fun _ => 0)) → h2.2.2 28 = .inl (0, 8, .inl (fun _ => 0)) → h2.2.2 29 = .inl (3, 4, .inr (fun _ => none)) → h2.2.2 30 = .inr (4, [xR 31, xI 0, xI 0]) → h2.2.2 31 = .inl (0, 330, .inl (fun _ => 0)) → h2.2.2 32 = .inr (0, [xR 33, xR 34, xR 35, xI 0]) → h2.2.2 33 = .inl (0, 20, .inl (fun _ => 0)) → h2.2.2 34 = .inl (0, 20, .inl (fun _ => 0)) → h2.2.2 35 = .inl (0, 20, .inl (fun _ => 0)) → h2.2.2 36 = .inl (0, 8, .inl (fun _ => 0)) → (∀ a, a < 23 → h2.2.2 a = f a) → Q [] h2) : hc_wp (d + 2) mX7_init 0 [xR 23] [] (24, sl, f) Q := by
  refine wp_go rfl rfl ?_
  refine wp_go rfl rfl ?_
  refine wp_go rfl rfl ?_
  refine e_new (fs := [xN, xN, xI 0]) rfl rfl ?_
  refine wp_go rfl rfl ?_
  refine wp_call rfl rfl rfl rfl ?_
  refine i_8_24 rfl (fun h9 e9 z9 f9_24 f9_25 f9_26 g9 => ?_)
  obtain ⟨n9, s9, u9⟩ := h9
  have e9 : n9 = 27 := e9
  subst e9
  refine e_put (fs' := [xR 24, xI 0, xN, xN, xI 0, xI 0, xI 0, xI 0, xN, xI 0, xI 0, xN, xN, xN, xI 0]) rfl ((g9 23 (by omega)).trans HO) rfl rfl ?_
  refine wp_go rfl rfl ?_
  refine wp_go rfl rfl ?_
  refine e_put (fs' := [xR 24, xI 0, xN, xN, xI 0, xI 0, xI 0, xI 0, xN, xI 0, xI 0, xN, xN, xN, xI 0]) rfl rfl rfl rfl ?_
  refine wp_go rfl rfl ?_
  refine wp_go rfl rfl ?_
  refine e_newa (t := 0) rfl rfl (by omega) ?_
  refine e_put (fs' := [xR 24, xI 0, xR 27, xN, xI 0, xI 0, xI 0, xI 0, xN, xI 0, xI 0, xN, xN, xN, xI 0]) rfl rfl rfl rfl ?_
  refine wp_go rfl rfl ?_
  refine wp_go rfl rfl ?_
  refine e_newa (t := 0) rfl rfl (by omega) ?_
  refine e_put (fs' := [xR 24, xI 0, xR 27, xR 28, xI 0, xI 0, xI 0, xI 0, xN, xI 0, xI 0, xN, xN, xN, xI 0]) rfl rfl rfl rfl ?_
  refine wp_go rfl rfl ?_
  refine wp_go rfl rfl ?_
  refine e_put (fs' := [xR 24, xI 0, xR 27, xR 28, xI 0, xI 0, xI 0, xI 0, xN, xI 0, xI 0, xN, xN, xN, xI 0]) rfl rfl rfl rfl ?_
  refine wp_go rfl rfl ?_
  refine wp_go rfl rfl ?_
  refine e_put (fs' := [xR 24, xI 0, xR 27, xR 28, xI 0, xI 0, xI 0, xI 0, xN, xI 0, xI 0, xN, xN, xN, xI 0]) rfl rfl rfl rfl ?_
  refine wp_go rfl rfl ?_
  refine wp_go rfl rfl ?_
  refine e_put (fs' := [xR 24, xI 0, xR 27, xR 28, xI 0, xI 0, xI 23, xI 0, xN, xI 0, xI 0, xN, xN, xN, xI 0]) rfl rfl rfl rfl ?_
  refine wp_go rfl rfl ?_
  refine wp_go rfl rfl ?_
  refine e_put (fs' := [xR 24, xI 0, xR 27, xR 28, xI 0, xI 0, xI 23, xI 0, xN, xI 0, xI 0, xN, xN, xN, xI 0]) rfl rfl rfl rfl ?_
  refine wp_go rfl rfl ?_
  refine wp_go rfl rfl ?_
  refine e_newr rfl (by omega) ?_
  refine e_put (fs' := [xR 24, xI 0, xR 27, xR 28, xI 0, xI 0, xI 23, xI 0, xR 29, xI 0, xI 0, xN, xN, xN, xI 0]) rfl rfl rfl rfl ?_
  refine wp_go rfl rfl ?_
  refine wp_go rfl rfl ?_
  refine e_put (fs' := [xR 24, xI 0, xR 27, xR 28, xI 0, xI 0, xI 23, xI 0, xR 29, xI 0, xI 0, xN, xN, xN, xI 0]) rfl rfl rfl rfl ?_
  refine wp_go rfl rfl ?_
  refine wp_go rfl rfl ?_
  refine e_put (fs' := [xR 24, xI 0, xR 27, xR 28, xI 0, xI 0, xI 23, xI 0, xR 29, xI 0, xI (-1), xN, xN, xN, xI 0]) rfl rfl rfl rfl ?_
  refine wp_go rfl rfl ?_
  refine e_new (fs := [xN, xI 0, xI 0]) rfl rfl ?_
  refine wp_go rfl rfl ?_
  refine wp_call rfl rfl rfl rfl ?_
  refine i_4_30 rfl (fun h80 e80 z80 f80_30 f80_31 g80 => ?_)
  obtain ⟨n80, s80, u80⟩ := h80
  have e80 : n80 = 32 := e80
  subst e80
  refine e_put (fs' := [xR 24, xI 0, xR 27, xR 28, xI 0, xI 0, xI 23, xI 0, xR 29, xI 0, xI (-1), xR 30, xN, xN, xI 0]) rfl ((g80 23 (by omega)).trans rfl) rfl rfl ?_
  refine wp_go rfl rfl ?_
  refine e_new (fs := [xN, xN, xN, xI 0]) rfl rfl ?_
  refine wp_go rfl rfl ?_
  refine wp_call rfl rfl rfl rfl ?_
  refine i_0_32 rfl (fun h91 e91 z91 f91_32 f91_33 f91_34 f91_35 g91 => ?_)
  obtain ⟨n91, s91, u91⟩ := h91
  have e91 : n91 = 36 := e91
  subst e91
  refine e_put (fs' := [xR 24, xI 0, xR 27, xR 28, xI 0, xI 0, xI 23, xI 0, xR 29, xI 0, xI (-1), xR 30, xR 32, xN, xI 0]) rfl ((g91 23 (by omega)).trans rfl) rfl rfl ?_
  refine wp_go rfl rfl ?_
  refine wp_go rfl rfl ?_
  refine e_newa (t := 0) rfl rfl (by omega) ?_
  refine e_put (fs' := [xR 24, xI 0, xR 27, xR 28, xI 0, xI 0, xI 23, xI 0, xR 29, xI 0, xI (-1), xR 30, xR 32, xR 36, xI 0]) rfl rfl rfl rfl ?_
  refine wp_go rfl rfl ?_
  refine wp_go rfl rfl ?_
  refine e_put (fs' := [xR 24, xI 0, xR 27, xR 28, xI 0, xI 0, xI 23, xI 0, xR 29, xI 0, xI (-1), xR 30, xR 32, xR 36, xI 0]) rfl rfl rfl rfl ?_
  refine wp_ret rfl rfl ?_
  refine k _ rfl ?_ rfl ((g91 24 (by omega)).trans ((g80 24 (by omega)).trans f9_24)) ((g91 25 (by omega)).trans ((g80 25 (by omega)).trans f9_25)) ((g91 26 (by omega)).trans ((g80 26 (by omega)).trans f9_26)) ((g91 27 (by omega)).trans ((g80 27 (by omega)).trans rfl)) ((g91 28 (by omega)).trans ((g80 28 (by omega)).trans rfl)) ((g91 29 (by omega)).trans ((g80 29 (by omega)).trans rfl)) ((g91 30 (by omega)).trans f80_30) ((g91 31 (by omega)).trans f80_31) f91_32 f91_33 f91_34 f91_35 rfl (fun a ha => ?_)
  · have z1 : s9 ≤ sl + 3 + 128 := z9
    have z2 : s80 ≤ s9 + 8 + 8 + 4 + 3 + 330 := z80
    have z3 : s91 ≤ s80 + 4 + 60 := z91
    show s91 + 8 ≤ sl + 600
    omega
  · exact (hw_ne (show a ≠ 23 by omega) (hw_ne (show a ≠ 23 by omega) (hal_ne (n := 0) (Nat.ne_of_lt (Nat.lt_of_lt_of_le ha (Nat.le_of_ble_eq_true rfl))) (hw_ne (show a ≠ 23 by omega) ((g91 a (by omega)).trans (hal_ne (n := 0) (Nat.ne_of_lt (Nat.lt_of_lt_of_le ha (Nat.le_of_ble_eq_true rfl))) (hw_ne (show a ≠ 23 by omega) ((g80 a (by omega)).trans (hal_ne (n := 0) (Nat.ne_of_lt (Nat.lt_of_lt_of_le ha (Nat.le_of_ble_eq_true rfl))) (hw_ne (show a ≠ 23 by omega) (hw_ne (show a ≠ 23 by omega) (hw_ne (show a ≠ 23 by omega) (hal_ne (n := 0) (Nat.ne_of_lt (Nat.lt_of_lt_of_le ha (Nat.le_of_ble_eq_true rfl))) (hw_ne (show a ≠ 23 by omega) (hw_ne (show a ≠ 23 by omega) (hw_ne (show a ≠ 23 by omega) (hw_ne (show a ≠ 23 by omega) (hw_ne (show a ≠ 23 by omega) (hal_ne (n := 0) (Nat.ne_of_lt (Nat.lt_of_lt_of_le ha (Nat.le_of_ble_eq_true rfl))) (hw_ne (show a ≠ 23 by omega) (hal_ne (n := 0) (Nat.ne_of_lt (Nat.lt_of_lt_of_le ha (Nat.le_of_ble_eq_true rfl))) (hw_ne (show a ≠ 23 by omega) (hw_ne (show a ≠ 23 by omega) ((g9 a (by omega)).trans (hal_ne (n := 0) (Nat.ne_of_lt (Nat.lt_of_lt_of_le ha (Nat.le_of_ble_eq_true rfl))) rfl)))))))))))))))))))))))))
set_option maxRecDepth 100000 in
theorem i_8_38 {d : Nat} {Q : List hc_V → hc_H → Prop} {sl : Nat} {f : Nat → hc_E} (HO : f 38 = .inr (8, [xN, xN, xI 0])) (k : ∀ h2 : hc_H, h2.1 = 41 → h2.2.1 ≤ sl + 128 → h2.2.2 38 = .inr (8, [xR 39, xR 40, xI 0]) → h2.2.2 39 = .inl (0, 64, .inl (fun _ => 0)) → h2.2.2 40 = .inl (0, 64, .inl (fun _ => 0)) → (∀ a, a < 38 → h2.2.2 a = f a) → Q [] h2) : hc_wp (d + 1) mX8_init 0 [xR 38] [] (39, sl, f) Q := by
  refine wp_go rfl rfl ?_
  refine wp_go rfl rfl ?_
  refine wp_go rfl rfl ?_
  refine wp_go rfl rfl ?_
  refine e_newa (t := 0) rfl rfl (by omega) ?_
  refine e_put (fs' := [xR 39, xN, xI 0]) rfl HO rfl rfl ?_
  refine wp_go rfl rfl ?_
  refine wp_go rfl rfl ?_
  refine e_newa (t := 0) rfl rfl (by omega) ?_
  refine e_put (fs' := [xR 39, xR 40, xI 0]) rfl rfl rfl rfl ?_
  refine wp_go rfl rfl ?_
  refine wp_go rfl rfl ?_
  refine e_put (fs' := [xR 39, xR 40, xI 0]) rfl rfl rfl rfl ?_
  refine wp_ret rfl rfl ?_
  refine k _ rfl ?_ rfl rfl rfl (fun a ha => ?_)
  · show sl + 64 + 64 ≤ sl + 128
    omega
  · exact (hw_ne (show a ≠ 38 by omega) (hw_ne (show a ≠ 38 by omega) (hal_ne (n := 0) (Nat.ne_of_lt (Nat.lt_of_lt_of_le ha (Nat.le_of_ble_eq_true rfl))) (hw_ne (show a ≠ 38 by omega) (hal_ne (n := 0) (Nat.ne_of_lt (Nat.lt_of_lt_of_le ha (Nat.le_of_ble_eq_true rfl))) rfl)))))
set_option maxRecDepth 100000 in
theorem i_4_44 {d : Nat} {Q : List hc_V → hc_H → Prop} {sl : Nat} {f : Nat → hc_E} (HO : f 44 = .inr (4, [xN, xI 0, xI 0])) (k : ∀ h2 : hc_H, h2.1 = 46 → h2.2.1 ≤ sl + 330 → h2.2.2 44 = .inr (4, [xR 45, xI 0, xI 0]) → h2.2.2 45 = .inl (0, 330, .inl (fun _ => 0)) → (∀ a, a < 44 → h2.2.2 a = f a) → Q [] h2) : hc_wp (d + 1) mX4_init 0 [xR 44] [] (45, sl, f) Q := by
  refine wp_go rfl rfl ?_
  refine wp_go rfl rfl ?_
  refine wp_go rfl rfl ?_
  refine wp_go rfl rfl ?_
  refine e_newa (t := 0) rfl rfl (by omega) ?_
  refine e_put (fs' := [xR 45, xI 0, xI 0]) rfl HO rfl rfl ?_
  refine wp_go rfl rfl ?_
  refine wp_go rfl rfl ?_
  refine e_put (fs' := [xR 45, xI 0, xI 0]) rfl rfl rfl rfl ?_
  refine wp_go rfl rfl ?_
  refine wp_go rfl rfl ?_
  refine e_put (fs' := [xR 45, xI 0, xI 0]) rfl rfl rfl rfl ?_
  refine wp_ret rfl rfl ?_
  refine k _ rfl ?_ rfl rfl (fun a ha => ?_)
  · show sl + 330 ≤ sl + 330
    omega
  · exact (hw_ne (show a ≠ 44 by omega) (hw_ne (show a ≠ 44 by omega) (hw_ne (show a ≠ 44 by omega) (hal_ne (n := 0) (Nat.ne_of_lt (Nat.lt_of_lt_of_le ha (Nat.le_of_ble_eq_true rfl))) rfl))))
set_option maxRecDepth 100000 in
theorem i_0_46 {d : Nat} {Q : List hc_V → hc_H → Prop} {sl : Nat} {f : Nat → hc_E} (HO : f 46 = .inr (0, [xN, xN, xN, xI 0])) (k : ∀ h2 : hc_H, h2.1 = 50 → h2.2.1 ≤ sl + 60 → h2.2.2 46 = .inr (0, [xR 47, xR 48, xR 49, xI 0]) → h2.2.2 47 = .inl (0, 20, .inl (fun _ => 0)) → h2.2.2 48 = .inl (0, 20, .inl (fun _ => 0)) → h2.2.2 49 = .inl (0, 20, .inl (fun _ => 0)) → (∀ a, a < 46 → h2.2.2 a = f a) → Q [] h2) : hc_wp (d + 1) mX0_init 0 [xR 46] [] (47, sl, f) Q := by
  refine wp_go rfl rfl ?_
  refine wp_go rfl rfl ?_
  refine wp_go rfl rfl ?_
  refine wp_go rfl rfl ?_
  refine e_newa (t := 0) rfl rfl (by omega) ?_
  refine e_put (fs' := [xR 47, xN, xN, xI 0]) rfl HO rfl rfl ?_
  refine wp_go rfl rfl ?_
  refine wp_go rfl rfl ?_
  refine e_newa (t := 0) rfl rfl (by omega) ?_
  refine e_put (fs' := [xR 47, xR 48, xN, xI 0]) rfl rfl rfl rfl ?_
  refine wp_go rfl rfl ?_
  refine wp_go rfl rfl ?_
  refine e_newa (t := 0) rfl rfl (by omega) ?_
  refine e_put (fs' := [xR 47, xR 48, xR 49, xI 0]) rfl rfl rfl rfl ?_
  refine wp_go rfl rfl ?_
  refine wp_go rfl rfl ?_
  refine e_put (fs' := [xR 47, xR 48, xR 49, xI 0]) rfl rfl rfl rfl ?_
  refine wp_ret rfl rfl ?_
  refine k _ rfl ?_ rfl rfl rfl rfl (fun a ha => ?_)
  · show sl + 20 + 20 + 20 ≤ sl + 60
    omega
  · exact (hw_ne (show a ≠ 46 by omega) (hw_ne (show a ≠ 46 by omega) (hal_ne (n := 0) (Nat.ne_of_lt (Nat.lt_of_lt_of_le ha (Nat.le_of_ble_eq_true rfl))) (hw_ne (show a ≠ 46 by omega) (hal_ne (n := 0) (Nat.ne_of_lt (Nat.lt_of_lt_of_le ha (Nat.le_of_ble_eq_true rfl))) (hw_ne (show a ≠ 46 by omega) (hal_ne (n := 0) (Nat.ne_of_lt (Nat.lt_of_lt_of_le ha (Nat.le_of_ble_eq_true rfl))) rfl)))))))
set_option maxRecDepth 100000 in
theorem i_7_37 {d : Nat} {Q : List hc_V → hc_H → Prop} {sl : Nat} {f : Nat → hc_E} (HO : f 37 = .inr (7, [xN, xI 0, xN, xN, xI 0, xI 0, xI 0, xI 0, xN, xI 0, xI 0, xN, xN, xN, xI 0])) (k : ∀ h2 : hc_H, h2.1 = 51 → h2.2.1 ≤ sl + 600 → h2.2.2 37 = .inr (7, [xR 38, xI 0, xR 41, xR 42, xI 0, xI 0, xI 23, xI 0, xR 43, xI 0, xI (-1), xR 44, xR 46, xR 50, xI 0]) → h2.2.2 38 = .inr (8, [xR 39, xR 40, xI 0]) → h2.2.2 39 = .inl (0, 64, .inl (fun _ => 0)) → h2.2.2 40 = .inl (0, 64, .inl (fun _ => 0)) → h2.2.2 41 = .inl (0, 8, .inl (fun _ => 0)) → h2.2.2 42 = .inl (0, 8, .inl (fun _ => 0)) → h2.2.2 43 = .inl (3, 4, .inr (fun _ => none)) → h2.2.2 44 = .inr (4, [xR 45, xI 0, xI 0]) → h2.2.2 45 = .inl (0, 330, .inl (fun _ => 0)) → h2.2.2 46 = .inr (0, [xR 47, xR 48, xR 49, xI 0]) → h2.2.2 47 = .inl (0, 20, .inl (fun _ => 0)) → h2.2.2 48 = .inl (0, 20, .inl (fun _ => 0)) → h2.2.2 49 = .inl (0, 20, .inl (fun _ => 0)) → h2.2.2 50 = .inl (0, 8, .inl (fun _ => 0)) → (∀ a, a < 37 → h2.2.2 a = f a) → Q [] h2) : hc_wp (d + 2) mX7_init 0 [xR 37] [] (38, sl, f) Q := by
  refine wp_go rfl rfl ?_
  refine wp_go rfl rfl ?_
  refine wp_go rfl rfl ?_
  refine e_new (fs := [xN, xN, xI 0]) rfl rfl ?_
  refine wp_go rfl rfl ?_
  refine wp_call rfl rfl rfl rfl ?_
  refine i_8_38 rfl (fun h9 e9 z9 f9_38 f9_39 f9_40 g9 => ?_)
  obtain ⟨n9, s9, u9⟩ := h9
  have e9 : n9 = 41 := e9
  subst e9
  refine e_put (fs' := [xR 38, xI 0, xN, xN, xI 0, xI 0, xI 0, xI 0, xN, xI 0, xI 0, xN, xN, xN, xI 0]) rfl ((g9 37 (by omega)).trans HO) rfl rfl ?_
  refine wp_go rfl rfl ?_
  refine wp_go rfl rfl ?_
  refine e_put (fs' := [xR 38, xI 0, xN, xN, xI 0, xI 0, xI 0, xI 0, xN, xI 0, xI 0, xN, xN, xN, xI 0]) rfl rfl rfl rfl ?_
  refine wp_go rfl rfl ?_
  refine wp_go rfl rfl ?_
  refine e_newa (t := 0) rfl rfl (by omega) ?_
  refine e_put (fs' := [xR 38, xI 0, xR 41, xN, xI 0, xI 0, xI 0, xI 0, xN, xI 0, xI 0, xN, xN, xN, xI 0]) rfl rfl rfl rfl ?_
  refine wp_go rfl rfl ?_
  refine wp_go rfl rfl ?_
  refine e_newa (t := 0) rfl rfl (by omega) ?_
  refine e_put (fs' := [xR 38, xI 0, xR 41, xR 42, xI 0, xI 0, xI 0, xI 0, xN, xI 0, xI 0, xN, xN, xN, xI 0]) rfl rfl rfl rfl ?_
  refine wp_go rfl rfl ?_
  refine wp_go rfl rfl ?_
  refine e_put (fs' := [xR 38, xI 0, xR 41, xR 42, xI 0, xI 0, xI 0, xI 0, xN, xI 0, xI 0, xN, xN, xN, xI 0]) rfl rfl rfl rfl ?_
  refine wp_go rfl rfl ?_
  refine wp_go rfl rfl ?_
  refine e_put (fs' := [xR 38, xI 0, xR 41, xR 42, xI 0, xI 0, xI 0, xI 0, xN, xI 0, xI 0, xN, xN, xN, xI 0]) rfl rfl rfl rfl ?_
  refine wp_go rfl rfl ?_
  refine wp_go rfl rfl ?_
  refine e_put (fs' := [xR 38, xI 0, xR 41, xR 42, xI 0, xI 0, xI 23, xI 0, xN, xI 0, xI 0, xN, xN, xN, xI 0]) rfl rfl rfl rfl ?_
  refine wp_go rfl rfl ?_
  refine wp_go rfl rfl ?_
  refine e_put (fs' := [xR 38, xI 0, xR 41, xR 42, xI 0, xI 0, xI 23, xI 0, xN, xI 0, xI 0, xN, xN, xN, xI 0]) rfl rfl rfl rfl ?_
  refine wp_go rfl rfl ?_
  refine wp_go rfl rfl ?_
  refine e_newr rfl (by omega) ?_
  refine e_put (fs' := [xR 38, xI 0, xR 41, xR 42, xI 0, xI 0, xI 23, xI 0, xR 43, xI 0, xI 0, xN, xN, xN, xI 0]) rfl rfl rfl rfl ?_
  refine wp_go rfl rfl ?_
  refine wp_go rfl rfl ?_
  refine e_put (fs' := [xR 38, xI 0, xR 41, xR 42, xI 0, xI 0, xI 23, xI 0, xR 43, xI 0, xI 0, xN, xN, xN, xI 0]) rfl rfl rfl rfl ?_
  refine wp_go rfl rfl ?_
  refine wp_go rfl rfl ?_
  refine e_put (fs' := [xR 38, xI 0, xR 41, xR 42, xI 0, xI 0, xI 23, xI 0, xR 43, xI 0, xI (-1), xN, xN, xN, xI 0]) rfl rfl rfl rfl ?_
  refine wp_go rfl rfl ?_
  refine e_new (fs := [xN, xI 0, xI 0]) rfl rfl ?_
  refine wp_go rfl rfl ?_
  refine wp_call rfl rfl rfl rfl ?_
  refine i_4_44 rfl (fun h80 e80 z80 f80_44 f80_45 g80 => ?_)
  obtain ⟨n80, s80, u80⟩ := h80
  have e80 : n80 = 46 := e80
  subst e80
  refine e_put (fs' := [xR 38, xI 0, xR 41, xR 42, xI 0, xI 0, xI 23, xI 0, xR 43, xI 0, xI (-1), xR 44, xN, xN, xI 0]) rfl ((g80 37 (by omega)).trans rfl) rfl rfl ?_
  refine wp_go rfl rfl ?_
  refine e_new (fs := [xN, xN, xN, xI 0]) rfl rfl ?_
  refine wp_go rfl rfl ?_
  refine wp_call rfl rfl rfl rfl ?_
  refine i_0_46 rfl (fun h91 e91 z91 f91_46 f91_47 f91_48 f91_49 g91 => ?_)
  obtain ⟨n91, s91, u91⟩ := h91
  have e91 : n91 = 50 := e91
  subst e91
  refine e_put (fs' := [xR 38, xI 0, xR 41, xR 42, xI 0, xI 0, xI 23, xI 0, xR 43, xI 0, xI (-1), xR 44, xR 46, xN, xI 0]) rfl ((g91 37 (by omega)).trans rfl) rfl rfl ?_
  refine wp_go rfl rfl ?_
  refine wp_go rfl rfl ?_
  refine e_newa (t := 0) rfl rfl (by omega) ?_
  refine e_put (fs' := [xR 38, xI 0, xR 41, xR 42, xI 0, xI 0, xI 23, xI 0, xR 43, xI 0, xI (-1), xR 44, xR 46, xR 50, xI 0]) rfl rfl rfl rfl ?_
  refine wp_go rfl rfl ?_
  refine wp_go rfl rfl ?_
  refine e_put (fs' := [xR 38, xI 0, xR 41, xR 42, xI 0, xI 0, xI 23, xI 0, xR 43, xI 0, xI (-1), xR 44, xR 46, xR 50, xI 0]) rfl rfl rfl rfl ?_
  refine wp_ret rfl rfl ?_
  refine k _ rfl ?_ rfl ((g91 38 (by omega)).trans ((g80 38 (by omega)).trans f9_38)) ((g91 39 (by omega)).trans ((g80 39 (by omega)).trans f9_39)) ((g91 40 (by omega)).trans ((g80 40 (by omega)).trans f9_40)) ((g91 41 (by omega)).trans ((g80 41 (by omega)).trans rfl)) ((g91 42 (by omega)).trans ((g80 42 (by omega)).trans rfl)) ((g91 43 (by omega)).trans ((g80 43 (by omega)).trans rfl)) ((g91 44 (by omega)).trans f80_44) ((g91 45 (by omega)).trans f80_45) f91_46 f91_47 f91_48 f91_49 rfl (fun a ha => ?_)
  · have z1 : s9 ≤ sl + 3 + 128 := z9
    have z2 : s80 ≤ s9 + 8 + 8 + 4 + 3 + 330 := z80
    have z3 : s91 ≤ s80 + 4 + 60 := z91
    show s91 + 8 ≤ sl + 600
    omega
  · exact (hw_ne (show a ≠ 37 by omega) (hw_ne (show a ≠ 37 by omega) (hal_ne (n := 0) (Nat.ne_of_lt (Nat.lt_of_lt_of_le ha (Nat.le_of_ble_eq_true rfl))) (hw_ne (show a ≠ 37 by omega) ((g91 a (by omega)).trans (hal_ne (n := 0) (Nat.ne_of_lt (Nat.lt_of_lt_of_le ha (Nat.le_of_ble_eq_true rfl))) (hw_ne (show a ≠ 37 by omega) ((g80 a (by omega)).trans (hal_ne (n := 0) (Nat.ne_of_lt (Nat.lt_of_lt_of_le ha (Nat.le_of_ble_eq_true rfl))) (hw_ne (show a ≠ 37 by omega) (hw_ne (show a ≠ 37 by omega) (hw_ne (show a ≠ 37 by omega) (hal_ne (n := 0) (Nat.ne_of_lt (Nat.lt_of_lt_of_le ha (Nat.le_of_ble_eq_true rfl))) (hw_ne (show a ≠ 37 by omega) (hw_ne (show a ≠ 37 by omega) (hw_ne (show a ≠ 37 by omega) (hw_ne (show a ≠ 37 by omega) (hw_ne (show a ≠ 37 by omega) (hal_ne (n := 0) (Nat.ne_of_lt (Nat.lt_of_lt_of_le ha (Nat.le_of_ble_eq_true rfl))) (hw_ne (show a ≠ 37 by omega) (hal_ne (n := 0) (Nat.ne_of_lt (Nat.lt_of_lt_of_le ha (Nat.le_of_ble_eq_true rfl))) (hw_ne (show a ≠ 37 by omega) (hw_ne (show a ≠ 37 by omega) ((g9 a (by omega)).trans (hal_ne (n := 0) (Nat.ne_of_lt (Nat.lt_of_lt_of_le ha (Nat.le_of_ble_eq_true rfl))) rfl)))))))))))))))))))))))))
set_option maxRecDepth 100000 in
theorem i_6_51 {d : Nat} {Q : List hc_V → hc_H → Prop} {sl : Nat} {f : Nat → hc_E} (HO : f 51 = .inr (6, [xN, xN, xN, xI 0, xN, xI 0, xI 0])) (k : ∀ h2 : hc_H, h2.1 = 55 → h2.2.1 ≤ sl + 903 → h2.2.2 51 = .inr (6, [xR 52, xR 53, xR 54, xI 0, xN, xI 0, xI 0]) → h2.2.2 52 = .inl (0, 301, .inl (fun _ => 0)) → h2.2.2 53 = .inl (0, 301, .inl (fun _ => 0)) → h2.2.2 54 = .inl (0, 301, .inl (fun _ => 0)) → (∀ a, a < 51 → h2.2.2 a = f a) → Q [] h2) : hc_wp (d + 1) mX6_init 0 [xR 51] [] (52, sl, f) Q := by
  refine wp_go rfl rfl ?_
  refine wp_go rfl rfl ?_
  refine wp_go rfl rfl ?_
  refine wp_go rfl rfl ?_
  refine e_newa (t := 0) rfl rfl (by omega) ?_
  refine e_put (fs' := [xR 52, xN, xN, xI 0, xN, xI 0, xI 0]) rfl HO rfl rfl ?_
  refine wp_go rfl rfl ?_
  refine wp_go rfl rfl ?_
  refine e_newa (t := 0) rfl rfl (by omega) ?_
  refine e_put (fs' := [xR 52, xR 53, xN, xI 0, xN, xI 0, xI 0]) rfl rfl rfl rfl ?_
  refine wp_go rfl rfl ?_
  refine wp_go rfl rfl ?_
  refine e_newa (t := 0) rfl rfl (by omega) ?_
  refine e_put (fs' := [xR 52, xR 53, xR 54, xI 0, xN, xI 0, xI 0]) rfl rfl rfl rfl ?_
  refine wp_go rfl rfl ?_
  refine wp_go rfl rfl ?_
  refine e_put (fs' := [xR 52, xR 53, xR 54, xI 0, xN, xI 0, xI 0]) rfl rfl rfl rfl ?_
  refine wp_go rfl rfl ?_
  refine wp_go rfl rfl ?_
  refine e_put (fs' := [xR 52, xR 53, xR 54, xI 0, xN, xI 0, xI 0]) rfl rfl rfl rfl ?_
  refine wp_go rfl rfl ?_
  refine wp_go rfl rfl ?_
  refine e_put (fs' := [xR 52, xR 53, xR 54, xI 0, xN, xI 0, xI 0]) rfl rfl rfl rfl ?_
  refine wp_go rfl rfl ?_
  refine wp_go rfl rfl ?_
  refine e_put (fs' := [xR 52, xR 53, xR 54, xI 0, xN, xI 0, xI 0]) rfl rfl rfl rfl ?_
  refine wp_ret rfl rfl ?_
  refine k _ rfl ?_ rfl rfl rfl rfl (fun a ha => ?_)
  · show sl + 301 + 301 + 301 ≤ sl + 903
    omega
  · exact (hw_ne (show a ≠ 51 by omega) (hw_ne (show a ≠ 51 by omega) (hw_ne (show a ≠ 51 by omega) (hw_ne (show a ≠ 51 by omega) (hw_ne (show a ≠ 51 by omega) (hal_ne (n := 0) (Nat.ne_of_lt (Nat.lt_of_lt_of_le ha (Nat.le_of_ble_eq_true rfl))) (hw_ne (show a ≠ 51 by omega) (hal_ne (n := 0) (Nat.ne_of_lt (Nat.lt_of_lt_of_le ha (Nat.le_of_ble_eq_true rfl))) (hw_ne (show a ≠ 51 by omega) (hal_ne (n := 0) (Nat.ne_of_lt (Nat.lt_of_lt_of_le ha (Nat.le_of_ble_eq_true rfl))) rfl))))))))))
set_option maxRecDepth 100000 in
theorem i_3_55 {d : Nat} {Q : List hc_V → hc_H → Prop} {sl : Nat} {f : Nat → hc_E} (HO : f 55 = .inr (3, [xN, xI 0, xN, xI 0, xI 0, xN, xN, xI 0, xN, xI 0, xI 0, xI 0, xI 0, xI 0])) (k : ∀ h2 : hc_H, h2.1 = 58 → h2.2.1 ≤ sl + 420 → h2.2.2 55 = .inr (3, [xR 56, xI 0, xR 57, xI 0, xI 0, xN, xN, xI 0, xN, xI 0, xI 0, xI 0, xI 0, xI (-1)]) → h2.2.2 56 = .inl (0, 300, .inl (fun _ => 0)) → h2.2.2 57 = .inl (0, 120, .inl (fun _ => 0)) → (∀ a, a < 55 → h2.2.2 a = f a) → Q [] h2) : hc_wp (d + 1) mX3_init 0 [xR 55] [] (56, sl, f) Q := by
  refine wp_go rfl rfl ?_
  refine wp_go rfl rfl ?_
  refine wp_go rfl rfl ?_
  refine wp_go rfl rfl ?_
  refine e_newa (t := 0) rfl rfl (by omega) ?_
  refine e_put (fs' := [xR 56, xI 0, xN, xI 0, xI 0, xN, xN, xI 0, xN, xI 0, xI 0, xI 0, xI 0, xI 0]) rfl HO rfl rfl ?_
  refine wp_go rfl rfl ?_
  refine wp_go rfl rfl ?_
  refine e_put (fs' := [xR 56, xI 0, xN, xI 0, xI 0, xN, xN, xI 0, xN, xI 0, xI 0, xI 0, xI 0, xI 0]) rfl rfl rfl rfl ?_
  refine wp_go rfl rfl ?_
  refine wp_go rfl rfl ?_
  refine e_newa (t := 0) rfl rfl (by omega) ?_
  refine e_put (fs' := [xR 56, xI 0, xR 57, xI 0, xI 0, xN, xN, xI 0, xN, xI 0, xI 0, xI 0, xI 0, xI 0]) rfl rfl rfl rfl ?_
  refine wp_go rfl rfl ?_
  refine wp_go rfl rfl ?_
  refine e_put (fs' := [xR 56, xI 0, xR 57, xI 0, xI 0, xN, xN, xI 0, xN, xI 0, xI 0, xI 0, xI 0, xI 0]) rfl rfl rfl rfl ?_
  refine wp_go rfl rfl ?_
  refine wp_go rfl rfl ?_
  refine e_put (fs' := [xR 56, xI 0, xR 57, xI 0, xI 0, xN, xN, xI 0, xN, xI 0, xI 0, xI 0, xI 0, xI 0]) rfl rfl rfl rfl ?_
  refine wp_go rfl rfl ?_
  refine wp_go rfl rfl ?_
  refine e_put (fs' := [xR 56, xI 0, xR 57, xI 0, xI 0, xN, xN, xI 0, xN, xI 0, xI 0, xI 0, xI 0, xI 0]) rfl rfl rfl rfl ?_
  refine wp_go rfl rfl ?_
  refine wp_go rfl rfl ?_
  refine e_put (fs' := [xR 56, xI 0, xR 57, xI 0, xI 0, xN, xN, xI 0, xN, xI 0, xI 0, xI 0, xI 0, xI 0]) rfl rfl rfl rfl ?_
  refine wp_go rfl rfl ?_
  refine wp_go rfl rfl ?_
  refine e_put (fs' := [xR 56, xI 0, xR 57, xI 0, xI 0, xN, xN, xI 0, xN, xI 0, xI 0, xI 0, xI 0, xI 0]) rfl rfl rfl rfl ?_
  refine wp_go rfl rfl ?_
  refine wp_go rfl rfl ?_
  refine e_put (fs' := [xR 56, xI 0, xR 57, xI 0, xI 0, xN, xN, xI 0, xN, xI 0, xI 0, xI 0, xI 0, xI 0]) rfl rfl rfl rfl ?_
  refine wp_go rfl rfl ?_
  refine wp_go rfl rfl ?_
  refine e_put (fs' := [xR 56, xI 0, xR 57, xI 0, xI 0, xN, xN, xI 0, xN, xI 0, xI 0, xI 0, xI 0, xI 0]) rfl rfl rfl rfl ?_
  refine wp_go rfl rfl ?_
  refine wp_go rfl rfl ?_
  refine e_put (fs' := [xR 56, xI 0, xR 57, xI 0, xI 0, xN, xN, xI 0, xN, xI 0, xI 0, xI 0, xI 0, xI 0]) rfl rfl rfl rfl ?_
  refine wp_go rfl rfl ?_
  refine wp_go rfl rfl ?_
  refine e_put (fs' := [xR 56, xI 0, xR 57, xI 0, xI 0, xN, xN, xI 0, xN, xI 0, xI 0, xI 0, xI 0, xI 0]) rfl rfl rfl rfl ?_
  refine wp_go rfl rfl ?_
  refine wp_go rfl rfl ?_
  refine e_put (fs' := [xR 56, xI 0, xR 57, xI 0, xI 0, xN, xN, xI 0, xN, xI 0, xI 0, xI 0, xI 0, xI 0]) rfl rfl rfl rfl ?_
  refine wp_go rfl rfl ?_
  refine wp_go rfl rfl ?_
  refine e_put (fs' := [xR 56, xI 0, xR 57, xI 0, xI 0, xN, xN, xI 0, xN, xI 0, xI 0, xI 0, xI 0, xI (-1)]) rfl rfl rfl rfl ?_
  refine wp_ret rfl rfl ?_
  refine k _ rfl ?_ rfl rfl rfl (fun a ha => ?_)
  · show sl + 300 + 120 ≤ sl + 420
    omega
  · exact (hw_ne (show a ≠ 55 by omega) (hw_ne (show a ≠ 55 by omega) (hw_ne (show a ≠ 55 by omega) (hw_ne (show a ≠ 55 by omega) (hw_ne (show a ≠ 55 by omega) (hw_ne (show a ≠ 55 by omega) (hw_ne (show a ≠ 55 by omega) (hw_ne (show a ≠ 55 by omega) (hw_ne (show a ≠ 55 by omega) (hw_ne (show a ≠ 55 by omega) (hw_ne (show a ≠ 55 by omega) (hw_ne (show a ≠ 55 by omega) (hal_ne (n := 0) (Nat.ne_of_lt (Nat.lt_of_lt_of_le ha (Nat.le_of_ble_eq_true rfl))) (hw_ne (show a ≠ 55 by omega) (hw_ne (show a ≠ 55 by omega) (hal_ne (n := 0) (Nat.ne_of_lt (Nat.lt_of_lt_of_le ha (Nat.le_of_ble_eq_true rfl))) rfl))))))))))))))))
set_option maxRecDepth 100000 in
theorem i_2_58 {d : Nat} {Q : List hc_V → hc_H → Prop} {sl : Nat} {f : Nat → hc_E} (HO : f 58 = .inr (2, [xN, xN, xN, xN, xN, xN, xI 0])) (k : ∀ h2 : hc_H, h2.1 = 65 → h2.2.1 ≤ sl + 544 → h2.2.2 58 = .inr (2, [xR 59, xR 60, xR 61, xR 62, xR 63, xR 64, xI 0]) → h2.2.2 59 = .inl (0, 8, .inl (fun _ => 0)) → h2.2.2 60 = .inl (0, 256, .inl (fun _ => 0)) → h2.2.2 61 = .inl (0, 256, .inl (fun _ => 0)) → h2.2.2 62 = .inl (0, 8, .inl (fun _ => 0)) → h2.2.2 63 = .inl (0, 8, .inl (fun _ => 0)) → h2.2.2 64 = .inl (0, 8, .inl (fun _ => 0)) → (∀ a, a < 58 → h2.2.2 a = f a) → Q [] h2) : hc_wp (d + 1) mX2_init 0 [xR 58] [] (59, sl, f) Q := by
  refine wp_go rfl rfl ?_
  refine wp_go rfl rfl ?_
  refine wp_go rfl rfl ?_
  refine wp_go rfl rfl ?_
  refine e_newa (t := 0) rfl rfl (by omega) ?_
  refine e_put (fs' := [xR 59, xN, xN, xN, xN, xN, xI 0]) rfl HO rfl rfl ?_
  refine wp_go rfl rfl ?_
  refine wp_go rfl rfl ?_
  refine e_newa (t := 0) rfl rfl (by omega) ?_
  refine e_put (fs' := [xR 59, xR 60, xN, xN, xN, xN, xI 0]) rfl rfl rfl rfl ?_
  refine wp_go rfl rfl ?_
  refine wp_go rfl rfl ?_
  refine e_newa (t := 0) rfl rfl (by omega) ?_
  refine e_put (fs' := [xR 59, xR 60, xR 61, xN, xN, xN, xI 0]) rfl rfl rfl rfl ?_
  refine wp_go rfl rfl ?_
  refine wp_go rfl rfl ?_
  refine e_newa (t := 0) rfl rfl (by omega) ?_
  refine e_put (fs' := [xR 59, xR 60, xR 61, xR 62, xN, xN, xI 0]) rfl rfl rfl rfl ?_
  refine wp_go rfl rfl ?_
  refine wp_go rfl rfl ?_
  refine e_newa (t := 0) rfl rfl (by omega) ?_
  refine e_put (fs' := [xR 59, xR 60, xR 61, xR 62, xR 63, xN, xI 0]) rfl rfl rfl rfl ?_
  refine wp_go rfl rfl ?_
  refine wp_go rfl rfl ?_
  refine e_newa (t := 0) rfl rfl (by omega) ?_
  refine e_put (fs' := [xR 59, xR 60, xR 61, xR 62, xR 63, xR 64, xI 0]) rfl rfl rfl rfl ?_
  refine wp_go rfl rfl ?_
  refine wp_go rfl rfl ?_
  refine e_put (fs' := [xR 59, xR 60, xR 61, xR 62, xR 63, xR 64, xI 0]) rfl rfl rfl rfl ?_
  refine wp_ret rfl rfl ?_
  refine k _ rfl ?_ rfl rfl rfl rfl rfl rfl rfl (fun a ha => ?_)
  · show sl + 8 + 256 + 256 + 8 + 8 + 8 ≤ sl + 544
    omega
  · exact (hw_ne (show a ≠ 58 by omega) (hw_ne (show a ≠ 58 by omega) (hal_ne (n := 0) (Nat.ne_of_lt (Nat.lt_of_lt_of_le ha (Nat.le_of_ble_eq_true rfl))) (hw_ne (show a ≠ 58 by omega) (hal_ne (n := 0) (Nat.ne_of_lt (Nat.lt_of_lt_of_le ha (Nat.le_of_ble_eq_true rfl))) (hw_ne (show a ≠ 58 by omega) (hal_ne (n := 0) (Nat.ne_of_lt (Nat.lt_of_lt_of_le ha (Nat.le_of_ble_eq_true rfl))) (hw_ne (show a ≠ 58 by omega) (hal_ne (n := 0) (Nat.ne_of_lt (Nat.lt_of_lt_of_le ha (Nat.le_of_ble_eq_true rfl))) (hw_ne (show a ≠ 58 by omega) (hal_ne (n := 0) (Nat.ne_of_lt (Nat.lt_of_lt_of_le ha (Nat.le_of_ble_eq_true rfl))) (hw_ne (show a ≠ 58 by omega) (hal_ne (n := 0) (Nat.ne_of_lt (Nat.lt_of_lt_of_le ha (Nat.le_of_ble_eq_true rfl))) rfl)))))))))))))
set_option maxRecDepth 100000 in
theorem i_1_65 {d : Nat} {Q : List hc_V → hc_H → Prop} {sl : Nat} {f : Nat → hc_E} (HO : f 65 = .inr (1, [xN, xN, xN, xN, xI 0])) (k : ∀ h2 : hc_H, h2.1 = 70 → h2.2.1 ≤ sl + 584 → h2.2.2 65 = .inr (1, [xR 66, xR 67, xR 68, xR 69, xI 0]) → h2.2.2 66 = .inl (0, 64, .inl (fun _ => 0)) → h2.2.2 67 = .inl (0, 256, .inl (fun _ => 0)) → h2.2.2 68 = .inl (0, 256, .inl (fun _ => 0)) → h2.2.2 69 = .inl (0, 8, .inl (fun _ => 0)) → (∀ a, a < 65 → h2.2.2 a = f a) → Q [] h2) : hc_wp (d + 1) mX1_init 0 [xR 65] [] (66, sl, f) Q := by
  refine wp_go rfl rfl ?_
  refine wp_go rfl rfl ?_
  refine wp_go rfl rfl ?_
  refine wp_go rfl rfl ?_
  refine e_newa (t := 0) rfl rfl (by omega) ?_
  refine e_put (fs' := [xR 66, xN, xN, xN, xI 0]) rfl HO rfl rfl ?_
  refine wp_go rfl rfl ?_
  refine wp_go rfl rfl ?_
  refine e_newa (t := 0) rfl rfl (by omega) ?_
  refine e_put (fs' := [xR 66, xR 67, xN, xN, xI 0]) rfl rfl rfl rfl ?_
  refine wp_go rfl rfl ?_
  refine wp_go rfl rfl ?_
  refine e_newa (t := 0) rfl rfl (by omega) ?_
  refine e_put (fs' := [xR 66, xR 67, xR 68, xN, xI 0]) rfl rfl rfl rfl ?_
  refine wp_go rfl rfl ?_
  refine wp_go rfl rfl ?_
  refine e_newa (t := 0) rfl rfl (by omega) ?_
  refine e_put (fs' := [xR 66, xR 67, xR 68, xR 69, xI 0]) rfl rfl rfl rfl ?_
  refine wp_go rfl rfl ?_
  refine wp_go rfl rfl ?_
  refine e_put (fs' := [xR 66, xR 67, xR 68, xR 69, xI 0]) rfl rfl rfl rfl ?_
  refine wp_ret rfl rfl ?_
  refine k _ rfl ?_ rfl rfl rfl rfl rfl (fun a ha => ?_)
  · show sl + 64 + 256 + 256 + 8 ≤ sl + 584
    omega
  · exact (hw_ne (show a ≠ 65 by omega) (hw_ne (show a ≠ 65 by omega) (hal_ne (n := 0) (Nat.ne_of_lt (Nat.lt_of_lt_of_le ha (Nat.le_of_ble_eq_true rfl))) (hw_ne (show a ≠ 65 by omega) (hal_ne (n := 0) (Nat.ne_of_lt (Nat.lt_of_lt_of_le ha (Nat.le_of_ble_eq_true rfl))) (hw_ne (show a ≠ 65 by omega) (hal_ne (n := 0) (Nat.ne_of_lt (Nat.lt_of_lt_of_le ha (Nat.le_of_ble_eq_true rfl))) (hw_ne (show a ≠ 65 by omega) (hal_ne (n := 0) (Nat.ne_of_lt (Nat.lt_of_lt_of_le ha (Nat.le_of_ble_eq_true rfl))) rfl)))))))))
set_option maxRecDepth 100000 in
theorem i_9_22 {d : Nat} {Q : List hc_V → hc_H → Prop} {sl : Nat} {f : Nat → hc_E} (HO : f 22 = .inr (9, [xN, xN, xN, xN, xN, xN, xN, xI 0])) (k : ∀ h2 : hc_H, h2.1 = 71 → h2.2.1 ≤ sl + 5000 → h2.2.2 22 = .inr (9, [xR 23, xR 37, xR 51, xR 55, xR 58, xR 65, xR 70, xI 0]) → h2.2.2 23 = .inr (7, [xR 24, xI 0, xR 27, xR 28, xI 0, xI 0, xI 23, xI 0, xR 29, xI 0, xI (-1), xR 30, xR 32, xR 36, xI 0]) → h2.2.2 24 = .inr (8, [xR 25, xR 26, xI 0]) → h2.2.2 25 = .inl (0, 64, .inl (fun _ => 0)) → h2.2.2 26 = .inl (0, 64, .inl (fun _ => 0)) → h2.2.2 27 = .inl (0, 8, .inl (fun _ => 0)) → h2.2.2 28 = .inl (0, 8, .inl (fun _ => 0)) → h2.2.2 29 = .inl (3, 4, .inr (fun _ => none)) → h2.2.2 30 = .inr (4, [xR 31, xI 0, xI 0]) → h2.2.2 31 = .inl (0, 330, .inl (fun _ => 0)) → h2.2.2 32 = .inr (0, [xR 33, xR 34, xR 35, xI 0]) → h2.2.2 33 = .inl (0, 20, .inl (fun _ => 0)) → h2.2.2 34 = .inl (0, 20, .inl (fun _ => 0)) → h2.2.2 35 = .inl (0, 20, .inl (fun _ => 0)) → h2.2.2 36 = .inl (0, 8, .inl (fun _ => 0)) → h2.2.2 37 = .inr (7, [xR 38, xI 0, xR 41, xR 42, xI 0, xI 0, xI 23, xI 0, xR 43, xI 0, xI (-1), xR 44, xR 46, xR 50, xI 0]) → h2.2.2 38 = .inr (8, [xR 39, xR 40, xI 0]) → h2.2.2 39 = .inl (0, 64, .inl (fun _ => 0)) → h2.2.2 40 = .inl (0, 64, .inl (fun _ => 0)) → h2.2.2 41 = .inl (0, 8, .inl (fun _ => 0)) → h2.2.2 42 = .inl (0, 8, .inl (fun _ => 0)) → h2.2.2 43 = .inl (3, 4, .inr (fun _ => none)) → h2.2.2 44 = .inr (4, [xR 45, xI 0, xI 0]) → h2.2.2 45 = .inl (0, 330, .inl (fun _ => 0)) → h2.2.2 46 = .inr (0, [xR 47, xR 48, xR 49, xI 0]) → h2.2.2 47 = .inl (0, 20, .inl (fun _ => 0)) → h2.2.2 48 = .inl (0, 20, .inl (fun _ => 0)) → h2.2.2 49 = .inl (0, 20, .inl (fun _ => 0)) → h2.2.2 50 = .inl (0, 8, .inl (fun _ => 0)) → h2.2.2 51 = .inr (6, [xR 52, xR 53, xR 54, xI 0, xN, xI 0, xI 0]) → h2.2.2 52 = .inl (0, 301, .inl (fun _ => 0)) → h2.2.2 53 = .inl (0, 301, .inl (fun _ => 0)) → h2.2.2 54 = .inl (0, 301, .inl (fun _ => 0)) → h2.2.2 55 = .inr (3, [xR 56, xI 0, xR 57, xI 0, xI 0, xN, xN, xI 0, xN, xI 0, xI 0, xI 0, xI 0, xI (-1)]) → h2.2.2 56 = .inl (0, 300, .inl (fun _ => 0)) → h2.2.2 57 = .inl (0, 120, .inl (fun _ => 0)) → h2.2.2 58 = .inr (2, [xR 59, xR 60, xR 61, xR 62, xR 63, xR 64, xI 0]) → h2.2.2 59 = .inl (0, 8, .inl (fun _ => 0)) → h2.2.2 60 = .inl (0, 256, .inl (fun _ => 0)) → h2.2.2 61 = .inl (0, 256, .inl (fun _ => 0)) → h2.2.2 62 = .inl (0, 8, .inl (fun _ => 0)) → h2.2.2 63 = .inl (0, 8, .inl (fun _ => 0)) → h2.2.2 64 = .inl (0, 8, .inl (fun _ => 0)) → h2.2.2 65 = .inr (1, [xR 66, xR 67, xR 68, xR 69, xI 0]) → h2.2.2 66 = .inl (0, 64, .inl (fun _ => 0)) → h2.2.2 67 = .inl (0, 256, .inl (fun _ => 0)) → h2.2.2 68 = .inl (0, 256, .inl (fun _ => 0)) → h2.2.2 69 = .inl (0, 8, .inl (fun _ => 0)) → h2.2.2 70 = .inl (0, 300, .inl (fun _ => 0)) → (∀ a, a < 22 → h2.2.2 a = f a) → Q [] h2) : hc_wp (d + 3) mX9_init 0 [xR 22] [] (23, sl, f) Q := by
  refine wp_go rfl rfl ?_
  refine wp_go rfl rfl ?_
  refine wp_go rfl rfl ?_
  refine e_new (fs := [xN, xI 0, xN, xN, xI 0, xI 0, xI 0, xI 0, xN, xI 0, xI 0, xN, xN, xN, xI 0]) rfl rfl ?_
  refine wp_go rfl rfl ?_
  refine wp_call rfl rfl rfl rfl ?_
  refine i_7_23 rfl (fun h9 e9 z9 f9_23 f9_24 f9_25 f9_26 f9_27 f9_28 f9_29 f9_30 f9_31 f9_32 f9_33 f9_34 f9_35 f9_36 g9 => ?_)
  obtain ⟨n9, s9, u9⟩ := h9
  have e9 : n9 = 37 := e9
  subst e9
  refine e_put (fs' := [xR 23, xN, xN, xN, xN, xN, xN, xI 0]) rfl ((g9 22 (by omega)).trans HO) rfl rfl ?_
  refine wp_go rfl rfl ?_
  refine e_new (fs := [xN, xI 0, xN, xN, xI 0, xI 0, xI 0, xI 0, xN, xI 0, xI 0, xN, xN, xN, xI 0]) rfl rfl ?_
  refine wp_go rfl rfl ?_
  refine wp_call rfl rfl rfl rfl ?_
  refine i_7_37 rfl (fun h20 e20 z20 f20_37 f20_38 f20_39 f20_40 f20_41 f20_42 f20_43 f20_44 f20_45 f20_46 f20_47 f20_48 f20_49 f20_50 g20 => ?_)
  obtain ⟨n20, s20, u20⟩ := h20
  have e20 : n20 = 51 := e20
  subst e20
  refine e_put (fs' := [xR 23, xR 37, xN, xN, xN, xN, xN, xI 0]) rfl ((g20 22 (by omega)).trans rfl) rfl rfl ?_
  refine wp_go rfl rfl ?_
  refine e_new (fs := [xN, xN, xN, xI 0, xN, xI 0, xI 0]) rfl rfl ?_
  refine wp_go rfl rfl ?_
  refine wp_call rfl rfl rfl rfl ?_
  refine i_6_51 rfl (fun h31 e31 z31 f31_51 f31_52 f31_53 f31_54 g31 => ?_)
  obtain ⟨n31, s31, u31⟩ := h31
  have e31 : n31 = 55 := e31
  subst e31
  refine e_put (fs' := [xR 23, xR 37, xR 51, xN, xN, xN, xN, xI 0]) rfl ((g31 22 (by omega)).trans rfl) rfl rfl ?_
  refine wp_go rfl rfl ?_
  refine e_new (fs := [xN, xI 0, xN, xI 0, xI 0, xN, xN, xI 0, xN, xI 0, xI 0, xI 0, xI 0, xI 0]) rfl rfl ?_
  refine wp_go rfl rfl ?_
  refine wp_call rfl rfl rfl rfl ?_
  refine i_3_55 rfl (fun h42 e42 z42 f42_55 f42_56 f42_57 g42 => ?_)
  obtain ⟨n42, s42, u42⟩ := h42
  have e42 : n42 = 58 := e42
  subst e42
  refine e_put (fs' := [xR 23, xR 37, xR 51, xR 55, xN, xN, xN, xI 0]) rfl ((g42 22 (by omega)).trans rfl) rfl rfl ?_
  refine wp_go rfl rfl ?_
  refine e_new (fs := [xN, xN, xN, xN, xN, xN, xI 0]) rfl rfl ?_
  refine wp_go rfl rfl ?_
  refine wp_call rfl rfl rfl rfl ?_
  refine i_2_58 rfl (fun h53 e53 z53 f53_58 f53_59 f53_60 f53_61 f53_62 f53_63 f53_64 g53 => ?_)
  obtain ⟨n53, s53, u53⟩ := h53
  have e53 : n53 = 65 := e53
  subst e53
  refine e_put (fs' := [xR 23, xR 37, xR 51, xR 55, xR 58, xN, xN, xI 0]) rfl ((g53 22 (by omega)).trans rfl) rfl rfl ?_
  refine wp_go rfl rfl ?_
  refine e_new (fs := [xN, xN, xN, xN, xI 0]) rfl rfl ?_
  refine wp_go rfl rfl ?_
  refine wp_call rfl rfl rfl rfl ?_
  refine i_1_65 rfl (fun h64 e64 z64 f64_65 f64_66 f64_67 f64_68 f64_69 g64 => ?_)
  obtain ⟨n64, s64, u64⟩ := h64
  have e64 : n64 = 70 := e64
  subst e64
  refine e_put (fs' := [xR 23, xR 37, xR 51, xR 55, xR 58, xR 65, xN, xI 0]) rfl ((g64 22 (by omega)).trans rfl) rfl rfl ?_
  refine wp_go rfl rfl ?_
  refine wp_go rfl rfl ?_
  refine e_newa (t := 0) rfl rfl (by omega) ?_
  refine e_put (fs' := [xR 23, xR 37, xR 51, xR 55, xR 58, xR 65, xR 70, xI 0]) rfl rfl rfl rfl ?_
  refine wp_go rfl rfl ?_
  refine wp_go rfl rfl ?_
  refine e_put (fs' := [xR 23, xR 37, xR 51, xR 55, xR 58, xR 65, xR 70, xI 0]) rfl rfl rfl rfl ?_
  refine wp_ret rfl rfl ?_
  refine k _ rfl ?_ rfl ((g64 23 (by omega)).trans ((g53 23 (by omega)).trans ((g42 23 (by omega)).trans ((g31 23 (by omega)).trans ((g20 23 (by omega)).trans f9_23))))) ((g64 24 (by omega)).trans ((g53 24 (by omega)).trans ((g42 24 (by omega)).trans ((g31 24 (by omega)).trans ((g20 24 (by omega)).trans f9_24))))) ((g64 25 (by omega)).trans ((g53 25 (by omega)).trans ((g42 25 (by omega)).trans ((g31 25 (by omega)).trans ((g20 25 (by omega)).trans f9_25))))) ((g64 26 (by omega)).trans ((g53 26 (by omega)).trans ((g42 26 (by omega)).trans ((g31 26 (by omega)).trans ((g20 26 (by omega)).trans f9_26))))) ((g64 27 (by omega)).trans ((g53 27 (by omega)).trans ((g42 27 (by omega)).trans ((g31 27 (by omega)).trans ((g20 27 (by omega)).trans f9_27))))) ((g64 28 (by omega)).trans ((g53 28 (by omega)).trans ((g42 28 (by omega)).trans ((g31 28 (by omega)).trans ((g20 28 (by omega)).trans f9_28))))) ((g64 29 (by omega)).trans ((g53 29 (by omega)).trans ((g42 29 (by omega)).trans ((g31 29 (by omega)).trans ((g20 29 (by omega)).trans f9_29))))) ((g64 30 (by omega)).trans ((g53 30 (by omega)).trans ((g42 30 (by omega)).trans ((g31 30 (by omega)).trans ((g20 30 (by omega)).trans f9_30))))) ((g64 31 (by omega)).trans ((g53 31 (by omega)).trans ((g42 31 (by omega)).trans ((g31 31 (by omega)).trans ((g20 31 (by omega)).trans f9_31))))) ((g64 32 (by omega)).trans ((g53 32 (by omega)).trans ((g42 32 (by omega)).trans ((g31 32 (by omega)).trans ((g20 32 (by omega)).trans f9_32))))) ((g64 33 (by omega)).trans ((g53 33 (by omega)).trans ((g42 33 (by omega)).trans ((g31 33 (by omega)).trans ((g20 33 (by omega)).trans f9_33))))) ((g64 34 (by omega)).trans ((g53 34 (by omega)).trans ((g42 34 (by omega)).trans ((g31 34 (by omega)).trans ((g20 34 (by omega)).trans f9_34))))) ((g64 35 (by omega)).trans ((g53 35 (by omega)).trans ((g42 35 (by omega)).trans ((g31 35 (by omega)).trans ((g20 35 (by omega)).trans f9_35))))) ((g64 36 (by omega)).trans ((g53 36 (by omega)).trans ((g42 36 (by omega)).trans ((g31 36 (by omega)).trans ((g20 36 (by omega)).trans f9_36))))) ((g64 37 (by omega)).trans ((g53 37 (by omega)).trans ((g42 37 (by omega)).trans ((g31 37 (by omega)).trans f20_37)))) ((g64 38 (by omega)).trans ((g53 38 (by omega)).trans ((g42 38 (by omega)).trans ((g31 38 (by omega)).trans f20_38)))) ((g64 39 (by omega)).trans ((g53 39 (by omega)).trans ((g42 39 (by omega)).trans ((g31 39 (by omega)).trans f20_39)))) ((g64 40 (by omega)).trans ((g53 40 (by omega)).trans ((g42 40 (by omega)).trans ((g31 40 (by omega)).trans f20_40)))) ((g64 41 (by omega)).trans ((g53 41 (by omega)).trans ((g42 41 (by omega)).trans ((g31 41 (by omega)).trans f20_41)))) ((g64 42 (by omega)).trans ((g53 42 (by omega)).trans ((g42 42 (by omega)).trans ((g31 42 (by omega)).trans f20_42)))) ((g64 43 (by omega)).trans ((g53 43 (by omega)).trans ((g42 43 (by omega)).trans ((g31 43 (by omega)).trans f20_43)))) ((g64 44 (by omega)).trans ((g53 44 (by omega)).trans ((g42 44 (by omega)).trans ((g31 44 (by omega)).trans f20_44)))) ((g64 45 (by omega)).trans ((g53 45 (by omega)).trans ((g42 45 (by omega)).trans ((g31 45 (by omega)).trans f20_45)))) ((g64 46 (by omega)).trans ((g53 46 (by omega)).trans ((g42 46 (by omega)).trans ((g31 46 (by omega)).trans f20_46)))) ((g64 47 (by omega)).trans ((g53 47 (by omega)).trans ((g42 47 (by omega)).trans ((g31 47 (by omega)).trans f20_47)))) ((g64 48 (by omega)).trans ((g53 48 (by omega)).trans ((g42 48 (by omega)).trans ((g31 48 (by omega)).trans f20_48)))) ((g64 49 (by omega)).trans ((g53 49 (by omega)).trans ((g42 49 (by omega)).trans ((g31 49 (by omega)).trans f20_49)))) ((g64 50 (by omega)).trans ((g53 50 (by omega)).trans ((g42 50 (by omega)).trans ((g31 50 (by omega)).trans f20_50)))) ((g64 51 (by omega)).trans ((g53 51 (by omega)).trans ((g42 51 (by omega)).trans f31_51))) ((g64 52 (by omega)).trans ((g53 52 (by omega)).trans ((g42 52 (by omega)).trans f31_52))) ((g64 53 (by omega)).trans ((g53 53 (by omega)).trans ((g42 53 (by omega)).trans f31_53))) ((g64 54 (by omega)).trans ((g53 54 (by omega)).trans ((g42 54 (by omega)).trans f31_54))) ((g64 55 (by omega)).trans ((g53 55 (by omega)).trans f42_55)) ((g64 56 (by omega)).trans ((g53 56 (by omega)).trans f42_56)) ((g64 57 (by omega)).trans ((g53 57 (by omega)).trans f42_57)) ((g64 58 (by omega)).trans f53_58) ((g64 59 (by omega)).trans f53_59) ((g64 60 (by omega)).trans f53_60) ((g64 61 (by omega)).trans f53_61) ((g64 62 (by omega)).trans f53_62) ((g64 63 (by omega)).trans f53_63) ((g64 64 (by omega)).trans f53_64) f64_65 f64_66 f64_67 f64_68 f64_69 rfl (fun a ha => ?_)
  · have y1 : s9 ≤ sl + 15 + 600 := z9
    have y2 : s20 ≤ s9 + 15 + 600 := z20
    have y3 : s31 ≤ s20 + 7 + 903 := z31
    have y4 : s42 ≤ s31 + 14 + 420 := z42
    have y5 : s53 ≤ s42 + 7 + 544 := z53
    have y6 : s64 ≤ s53 + 5 + 584 := z64
    show s64 + 300 ≤ sl + 5000
    omega
  · exact (hw_ne (show a ≠ 22 by omega) (hw_ne (show a ≠ 22 by omega) (hal_ne (n := 0) (Nat.ne_of_lt (Nat.lt_of_lt_of_le ha (Nat.le_of_ble_eq_true rfl))) (hw_ne (show a ≠ 22 by omega) ((g64 a (by omega)).trans (hal_ne (n := 0) (Nat.ne_of_lt (Nat.lt_of_lt_of_le ha (Nat.le_of_ble_eq_true rfl))) (hw_ne (show a ≠ 22 by omega) ((g53 a (by omega)).trans (hal_ne (n := 0) (Nat.ne_of_lt (Nat.lt_of_lt_of_le ha (Nat.le_of_ble_eq_true rfl))) (hw_ne (show a ≠ 22 by omega) ((g42 a (by omega)).trans (hal_ne (n := 0) (Nat.ne_of_lt (Nat.lt_of_lt_of_le ha (Nat.le_of_ble_eq_true rfl))) (hw_ne (show a ≠ 22 by omega) ((g31 a (by omega)).trans (hal_ne (n := 0) (Nat.ne_of_lt (Nat.lt_of_lt_of_le ha (Nat.le_of_ble_eq_true rfl))) (hw_ne (show a ≠ 22 by omega) ((g20 a (by omega)).trans (hal_ne (n := 0) (Nat.ne_of_lt (Nat.lt_of_lt_of_le ha (Nat.le_of_ble_eq_true rfl))) (hw_ne (show a ≠ 22 by omega) ((g9 a (by omega)).trans (hal_ne (n := 0) (Nat.ne_of_lt (Nat.lt_of_lt_of_le ha (Nat.le_of_ble_eq_true rfl))) rfl)))))))))))))))))))))
