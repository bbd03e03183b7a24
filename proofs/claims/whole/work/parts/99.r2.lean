/-! constructors: the reference -/
set_option maxRecDepth 100000 in
theorem i_10_71 {d : Nat} {Q : List hc_V → hc_H → Prop} {sl : Nat} {f : Nat → hc_E} (HO : f 71 = .inr (10, [xN, xN, xN, xN, xI 0, xI 0, xI 0, xI 0, xI 0, xI 0, xI 0, xL 0, xI 0, xI 0, xI 0, xI 0, xN, xI 0, xI 0, xI 0, xI 0, xI 0, xI 0, xN, xN, xN, xN, xN, xN, xN, xI 0, xN, xN, xN, xN, xN, xN, xN])) (k : ∀ h2 : hc_H, h2.1 = 91 → h2.2.1 ≤ sl + 6000 → h2.2.2 73 = ar 456 (cpA (hc_u (hc_u (fun _ => 0) 6 (-1)) 3 23) (fun _ => 0) 456) → h2.2.2 71 = .inr (10, [xR 72, xR 73, xR 74, xR 75, xI 0, xI (-1), xI (-1), xI 0, xI 0, xI 0, xI 0, xL 0, xI 0, xI 0, xI 0, xI 0, xR 76, xI 0, xI 0, xI 0, xI 0, xI 0, xI 0, xR 77, xR 78, xR 79, xR 80, xR 81, xR 82, xR 83, xI 0, xR 84, xR 85, xR 86, xR 87, xR 88, xR 89, xR 90]) → h2.2.2 72 = .inl (0, 456, .inl (hc_u (hc_u (fun _ => 0) 6 (-1)) 3 23)) → h2.2.2 74 = .inl (0, 2720, .inl (fun _ => 0)) → h2.2.2 75 = .inl (0, 300, .inl (fun _ => 0)) → h2.2.2 76 = .inl (0, 160, .inl (fun _ => 0)) → h2.2.2 77 = .inl (0, 7, .inl (fun _ => 0)) → h2.2.2 78 = .inl (1, 330, .inl (fun _ => 0)) → h2.2.2 79 = .inl (2, 330, .inl (fun _ => 0)) → h2.2.2 80 = .inl (0, 8, .inl (fun _ => 0)) → h2.2.2 81 = .inl (0, 256, .inl (fun _ => 0)) → h2.2.2 82 = .inl (0, 256, .inl (fun _ => 0)) → h2.2.2 83 = .inl (0, 24, .inl (fun _ => 0)) → h2.2.2 84 = .inl (0, 8, .inl (fun _ => 0)) → h2.2.2 85 = .inl (0, 8, .inl (fun _ => 0)) → h2.2.2 86 = .inl (0, 64, .inl (fun _ => 0)) → h2.2.2 87 = .inl (0, 9, .inl (fun _ => 0)) → h2.2.2 88 = .inl (0, 9, .inl (fun _ => 0)) → h2.2.2 89 = .inl (0, 8, .inl (fun _ => 0)) → h2.2.2 90 = .inl (1, 8, .inl (fun _ => 0)) → (∀ a, a < 71 → h2.2.2 a = f a) → Q [] h2) : hc_wp (d + 1) mX10_init 0 [xR 71] [] (72, sl, f) Q := by
  refine wp_go rfl rfl ?_
  refine wp_go rfl rfl ?_
  refine wp_go rfl rfl ?_
  refine wp_go rfl rfl ?_
  refine e_newa (t := 0) rfl rfl (by omega) ?_
  refine e_put (fs' := [xR 72, xN, xN, xN, xI 0, xI 0, xI 0, xI 0, xI 0, xI 0, xI 0, xL 0, xI 0, xI 0, xI 0, xI 0, xN, xI 0, xI 0, xI 0, xI 0, xI 0, xI 0, xN, xN, xN, xN, xN, xN, xN, xI 0, xN, xN, xN, xN, xN, xN, xN]) rfl HO rfl rfl ?_
  refine wp_go rfl rfl ?_
  refine wp_go rfl rfl ?_
  refine e_newa (t := 0) rfl rfl (by omega) ?_
  refine e_put (fs' := [xR 72, xR 73, xN, xN, xI 0, xI 0, xI 0, xI 0, xI 0, xI 0, xI 0, xL 0, xI 0, xI 0, xI 0, xI 0, xN, xI 0, xI 0, xI 0, xI 0, xI 0, xI 0, xN, xN, xN, xN, xN, xN, xN, xI 0, xN, xN, xN, xN, xN, xN, xN]) rfl rfl rfl rfl ?_
  refine wp_go rfl rfl ?_
  refine wp_go rfl rfl ?_
  refine e_newa (t := 0) rfl rfl (by omega) ?_
  refine e_put (fs' := [xR 72, xR 73, xR 74, xN, xI 0, xI 0, xI 0, xI 0, xI 0, xI 0, xI 0, xL 0, xI 0, xI 0, xI 0, xI 0, xN, xI 0, xI 0, xI 0, xI 0, xI 0, xI 0, xN, xN, xN, xN, xN, xN, xN, xI 0, xN, xN, xN, xN, xN, xN, xN]) rfl rfl rfl rfl ?_
  refine wp_go rfl rfl ?_
  refine wp_go rfl rfl ?_
  refine e_newa (t := 0) rfl rfl (by omega) ?_
  refine e_put (fs' := [xR 72, xR 73, xR 74, xR 75, xI 0, xI 0, xI 0, xI 0, xI 0, xI 0, xI 0, xL 0, xI 0, xI 0, xI 0, xI 0, xN, xI 0, xI 0, xI 0, xI 0, xI 0, xI 0, xN, xN, xN, xN, xN, xN, xN, xI 0, xN, xN, xN, xN, xN, xN, xN]) rfl rfl rfl rfl ?_
  refine wp_go rfl rfl ?_
  refine wp_go rfl rfl ?_
  refine e_put (fs' := [xR 72, xR 73, xR 74, xR 75, xI 0, xI (-1), xI 0, xI 0, xI 0, xI 0, xI 0, xL 0, xI 0, xI 0, xI 0, xI 0, xN, xI 0, xI 0, xI 0, xI 0, xI 0, xI 0, xN, xN, xN, xN, xN, xN, xN, xI 0, xN, xN, xN, xN, xN, xN, xN]) rfl rfl rfl rfl ?_
  refine wp_go rfl rfl ?_
  refine wp_go rfl rfl ?_
  refine e_put (fs' := [xR 72, xR 73, xR 74, xR 75, xI 0, xI (-1), xI (-1), xI 0, xI 0, xI 0, xI 0, xL 0, xI 0, xI 0, xI 0, xI 0, xN, xI 0, xI 0, xI 0, xI 0, xI 0, xI 0, xN, xN, xN, xN, xN, xN, xN, xI 0, xN, xN, xN, xN, xN, xN, xN]) rfl rfl rfl rfl ?_
  refine wp_go rfl rfl ?_
  refine wp_go rfl rfl ?_
  refine e_newa (t := 0) rfl rfl (by omega) ?_
  refine e_put (fs' := [xR 72, xR 73, xR 74, xR 75, xI 0, xI (-1), xI (-1), xI 0, xI 0, xI 0, xI 0, xL 0, xI 0, xI 0, xI 0, xI 0, xR 76, xI 0, xI 0, xI 0, xI 0, xI 0, xI 0, xN, xN, xN, xN, xN, xN, xN, xI 0, xN, xN, xN, xN, xN, xN, xN]) rfl rfl rfl rfl ?_
  refine wp_go rfl rfl ?_
  refine wp_go rfl rfl ?_
  refine e_newa (t := 0) rfl rfl (by omega) ?_
  refine e_put (fs' := [xR 72, xR 73, xR 74, xR 75, xI 0, xI (-1), xI (-1), xI 0, xI 0, xI 0, xI 0, xL 0, xI 0, xI 0, xI 0, xI 0, xR 76, xI 0, xI 0, xI 0, xI 0, xI 0, xI 0, xR 77, xN, xN, xN, xN, xN, xN, xI 0, xN, xN, xN, xN, xN, xN, xN]) rfl rfl rfl rfl ?_
  refine wp_go rfl rfl ?_
  refine wp_go rfl rfl ?_
  refine e_newa (t := 1) rfl rfl (by omega) ?_
  refine e_put (fs' := [xR 72, xR 73, xR 74, xR 75, xI 0, xI (-1), xI (-1), xI 0, xI 0, xI 0, xI 0, xL 0, xI 0, xI 0, xI 0, xI 0, xR 76, xI 0, xI 0, xI 0, xI 0, xI 0, xI 0, xR 77, xR 78, xN, xN, xN, xN, xN, xI 0, xN, xN, xN, xN, xN, xN, xN]) rfl rfl rfl rfl ?_
  refine wp_go rfl rfl ?_
  refine wp_go rfl rfl ?_
  refine e_newa (t := 2) rfl rfl (by omega) ?_
  refine e_put (fs' := [xR 72, xR 73, xR 74, xR 75, xI 0, xI (-1), xI (-1), xI 0, xI 0, xI 0, xI 0, xL 0, xI 0, xI 0, xI 0, xI 0, xR 76, xI 0, xI 0, xI 0, xI 0, xI 0, xI 0, xR 77, xR 78, xR 79, xN, xN, xN, xN, xI 0, xN, xN, xN, xN, xN, xN, xN]) rfl rfl rfl rfl ?_
  refine wp_go rfl rfl ?_
  refine wp_go rfl rfl ?_
  refine e_newa (t := 0) rfl rfl (by omega) ?_
  refine e_put (fs' := [xR 72, xR 73, xR 74, xR 75, xI 0, xI (-1), xI (-1), xI 0, xI 0, xI 0, xI 0, xL 0, xI 0, xI 0, xI 0, xI 0, xR 76, xI 0, xI 0, xI 0, xI 0, xI 0, xI 0, xR 77, xR 78, xR 79, xR 80, xN, xN, xN, xI 0, xN, xN, xN, xN, xN, xN, xN]) rfl rfl rfl rfl ?_
  refine wp_go rfl rfl ?_
  refine wp_go rfl rfl ?_
  refine e_newa (t := 0) rfl rfl (by omega) ?_
  refine e_put (fs' := [xR 72, xR 73, xR 74, xR 75, xI 0, xI (-1), xI (-1), xI 0, xI 0, xI 0, xI 0, xL 0, xI 0, xI 0, xI 0, xI 0, xR 76, xI 0, xI 0, xI 0, xI 0, xI 0, xI 0, xR 77, xR 78, xR 79, xR 80, xR 81, xN, xN, xI 0, xN, xN, xN, xN, xN, xN, xN]) rfl rfl rfl rfl ?_
  refine wp_go rfl rfl ?_
  refine wp_go rfl rfl ?_
  refine e_newa (t := 0) rfl rfl (by omega) ?_
  refine e_put (fs' := [xR 72, xR 73, xR 74, xR 75, xI 0, xI (-1), xI (-1), xI 0, xI 0, xI 0, xI 0, xL 0, xI 0, xI 0, xI 0, xI 0, xR 76, xI 0, xI 0, xI 0, xI 0, xI 0, xI 0, xR 77, xR 78, xR 79, xR 80, xR 81, xR 82, xN, xI 0, xN, xN, xN, xN, xN, xN, xN]) rfl rfl rfl rfl ?_
  refine wp_go rfl rfl ?_
  refine wp_go rfl rfl ?_
  refine e_newa (t := 0) rfl rfl (by omega) ?_
  refine e_put (fs' := [xR 72, xR 73, xR 74, xR 75, xI 0, xI (-1), xI (-1), xI 0, xI 0, xI 0, xI 0, xL 0, xI 0, xI 0, xI 0, xI 0, xR 76, xI 0, xI 0, xI 0, xI 0, xI 0, xI 0, xR 77, xR 78, xR 79, xR 80, xR 81, xR 82, xR 83, xI 0, xN, xN, xN, xN, xN, xN, xN]) rfl rfl rfl rfl ?_
  refine wp_go rfl rfl ?_
  refine wp_go rfl rfl ?_
  refine e_newa (t := 0) rfl rfl (by omega) ?_
  refine e_put (fs' := [xR 72, xR 73, xR 74, xR 75, xI 0, xI (-1), xI (-1), xI 0, xI 0, xI 0, xI 0, xL 0, xI 0, xI 0, xI 0, xI 0, xR 76, xI 0, xI 0, xI 0, xI 0, xI 0, xI 0, xR 77, xR 78, xR 79, xR 80, xR 81, xR 82, xR 83, xI 0, xR 84, xN, xN, xN, xN, xN, xN]) rfl rfl rfl rfl ?_
  refine wp_go rfl rfl ?_
  refine wp_go rfl rfl ?_
  refine e_newa (t := 0) rfl rfl (by omega) ?_
  refine e_put (fs' := [xR 72, xR 73, xR 74, xR 75, xI 0, xI (-1), xI (-1), xI 0, xI 0, xI 0, xI 0, xL 0, xI 0, xI 0, xI 0, xI 0, xR 76, xI 0, xI 0, xI 0, xI 0, xI 0, xI 0, xR 77, xR 78, xR 79, xR 80, xR 81, xR 82, xR 83, xI 0, xR 84, xR 85, xN, xN, xN, xN, xN]) rfl rfl rfl rfl ?_
  refine wp_go rfl rfl ?_
  refine wp_go rfl rfl ?_
  refine e_newa (t := 0) rfl rfl (by omega) ?_
  refine e_put (fs' := [xR 72, xR 73, xR 74, xR 75, xI 0, xI (-1), xI (-1), xI 0, xI 0, xI 0, xI 0, xL 0, xI 0, xI 0, xI 0, xI 0, xR 76, xI 0, xI 0, xI 0, xI 0, xI 0, xI 0, xR 77, xR 78, xR 79, xR 80, xR 81, xR 82, xR 83, xI 0, xR 84, xR 85, xR 86, xN, xN, xN, xN]) rfl rfl rfl rfl ?_
  refine wp_go rfl rfl ?_
  refine wp_go rfl rfl ?_
  refine e_newa (t := 0) rfl rfl (by omega) ?_
  refine e_put (fs' := [xR 72, xR 73, xR 74, xR 75, xI 0, xI (-1), xI (-1), xI 0, xI 0, xI 0, xI 0, xL 0, xI 0, xI 0, xI 0, xI 0, xR 76, xI 0, xI 0, xI 0, xI 0, xI 0, xI 0, xR 77, xR 78, xR 79, xR 80, xR 81, xR 82, xR 83, xI 0, xR 84, xR 85, xR 86, xR 87, xN, xN, xN]) rfl rfl rfl rfl ?_
  refine wp_go rfl rfl ?_
  refine wp_go rfl rfl ?_
  refine e_newa (t := 0) rfl rfl (by omega) ?_
  refine e_put (fs' := [xR 72, xR 73, xR 74, xR 75, xI 0, xI (-1), xI (-1), xI 0, xI 0, xI 0, xI 0, xL 0, xI 0, xI 0, xI 0, xI 0, xR 76, xI 0, xI 0, xI 0, xI 0, xI 0, xI 0, xR 77, xR 78, xR 79, xR 80, xR 81, xR 82, xR 83, xI 0, xR 84, xR 85, xR 86, xR 87, xR 88, xN, xN]) rfl rfl rfl rfl ?_
  refine wp_go rfl rfl ?_
  refine wp_go rfl rfl ?_
  refine e_newa (t := 0) rfl rfl (by omega) ?_
  refine e_put (fs' := [xR 72, xR 73, xR 74, xR 75, xI 0, xI (-1), xI (-1), xI 0, xI 0, xI 0, xI 0, xL 0, xI 0, xI 0, xI 0, xI 0, xR 76, xI 0, xI 0, xI 0, xI 0, xI 0, xI 0, xR 77, xR 78, xR 79, xR 80, xR 81, xR 82, xR 83, xI 0, xR 84, xR 85, xR 86, xR 87, xR 88, xR 89, xN]) rfl rfl rfl rfl ?_
  refine wp_go rfl rfl ?_
  refine wp_go rfl rfl ?_
  refine e_newa (t := 1) rfl rfl (by omega) ?_
  refine e_put (fs' := [xR 72, xR 73, xR 74, xR 75, xI 0, xI (-1), xI (-1), xI 0, xI 0, xI 0, xI 0, xL 0, xI 0, xI 0, xI 0, xI 0, xR 76, xI 0, xI 0, xI 0, xI 0, xI 0, xI 0, xR 77, xR 78, xR 79, xR 80, xR 81, xR 82, xR 83, xI 0, xR 84, xR 85, xR 86, xR 87, xR 88, xR 89, xR 90]) rfl rfl rfl rfl ?_
  refine wp_go rfl rfl ?_
  refine e_get rfl rfl rfl rfl ?_
  refine wp_go rfl rfl ?_
  refine wp_go rfl rfl ?_
  refine e_iastE (p := 6) rfl rfl ⟨by omega, by omega⟩ ?_
  refine wp_go rfl rfl ?_
  refine e_get rfl rfl rfl rfl ?_
  refine wp_go rfl rfl ?_
  refine wp_go rfl rfl ?_
  refine e_iastE (p := 3) rfl rfl ⟨by omega, by omega⟩ ?_
  refine wp_go rfl rfl ?_
  refine e_get rfl rfl rfl rfl ?_
  refine wp_go rfl rfl ?_
  refine e_get rfl rfl rfl rfl ?_
  refine wp_call rfl rfl rfl rfl ?_
  refine c_mcopy_k (d := d) (A := (hc_u (hc_u (fun _ => 0) 6 (-1)) 3 23)) (B := fun _ => 0) rfl rfl (fun h2 C73 F2 => ?_)
  have e199 := F2.1
  refine wp_ret rfl rfl ?_
  refine k h2 (F2.1.trans rfl) ?_ C73 ((F2.2.2 71 rfl).trans rfl) ((F2.2.2 72 rfl).trans rfl) ((F2.2.2 74 rfl).trans rfl) ((F2.2.2 75 rfl).trans rfl) ((F2.2.2 76 rfl).trans rfl) ((F2.2.2 77 rfl).trans rfl) ((F2.2.2 78 rfl).trans rfl) ((F2.2.2 79 rfl).trans rfl) ((F2.2.2 80 rfl).trans rfl) ((F2.2.2 81 rfl).trans rfl) ((F2.2.2 82 rfl).trans rfl) ((F2.2.2 83 rfl).trans rfl) ((F2.2.2 84 rfl).trans rfl) ((F2.2.2 85 rfl).trans rfl) ((F2.2.2 86 rfl).trans rfl) ((F2.2.2 87 rfl).trans rfl) ((F2.2.2 88 rfl).trans rfl) ((F2.2.2 89 rfl).trans rfl) ((F2.2.2 90 rfl).trans rfl) (fun a ha => ?_)
  · rw [F2.2.1]
    show sl + 456 + 456 + 2720 + 300 + 160 + 7 + 330 + 330 + 8 + 256 + 256 + 24 + 8 + 8 + 64 + 9 + 9 + 8 + 8 ≤ sl + 6000
    omega
  · refine (F2.2.2 a (by simp only [nin, hc_bne (show a ≠ 73 by omega), cond_false])).trans ?_
    exact (hw_ne (show a ≠ 72 by omega) (hw_ne (show a ≠ 72 by omega) (hw_ne (show a ≠ 71 by omega) (hal_ne (Nat.ne_of_lt (Nat.lt_of_lt_of_le ha (Nat.le_of_ble_eq_true rfl))) (hw_ne (show a ≠ 71 by omega) (hal_ne (Nat.ne_of_lt (Nat.lt_of_lt_of_le ha (Nat.le_of_ble_eq_true rfl))) (hw_ne (show a ≠ 71 by omega) (hal_ne (Nat.ne_of_lt (Nat.lt_of_lt_of_le ha (Nat.le_of_ble_eq_true rfl))) (hw_ne (show a ≠ 71 by omega) (hal_ne (Nat.ne_of_lt (Nat.lt_of_lt_of_le ha (Nat.le_of_ble_eq_true rfl))) (hw_ne (show a ≠ 71 by omega) (hal_ne (Nat.ne_of_lt (Nat.lt_of_lt_of_le ha (Nat.le_of_ble_eq_true rfl))) (hw_ne (show a ≠ 71 by omega) (hal_ne (Nat.ne_of_lt (Nat.lt_of_lt_of_le ha (Nat.le_of_ble_eq_true rfl))) (hw_ne (show a ≠ 71 by omega) (hal_ne (Nat.ne_of_lt (Nat.lt_of_lt_of_le ha (Nat.le_of_ble_eq_true rfl))) (hw_ne (show a ≠ 71 by omega) (hal_ne (Nat.ne_of_lt (Nat.lt_of_lt_of_le ha (Nat.le_of_ble_eq_true rfl))) (hw_ne (show a ≠ 71 by omega) (hal_ne (Nat.ne_of_lt (Nat.lt_of_lt_of_le ha (Nat.le_of_ble_eq_true rfl))) (hw_ne (show a ≠ 71 by omega) (hal_ne (Nat.ne_of_lt (Nat.lt_of_lt_of_le ha (Nat.le_of_ble_eq_true rfl))) (hw_ne (show a ≠ 71 by omega) (hal_ne (Nat.ne_of_lt (Nat.lt_of_lt_of_le ha (Nat.le_of_ble_eq_true rfl))) (hw_ne (show a ≠ 71 by omega) (hal_ne (Nat.ne_of_lt (Nat.lt_of_lt_of_le ha (Nat.le_of_ble_eq_true rfl))) (hw_ne (show a ≠ 71 by omega) (hal_ne (Nat.ne_of_lt (Nat.lt_of_lt_of_le ha (Nat.le_of_ble_eq_true rfl))) (hw_ne (show a ≠ 71 by omega) (hal_ne (Nat.ne_of_lt (Nat.lt_of_lt_of_le ha (Nat.le_of_ble_eq_true rfl))) (hw_ne (show a ≠ 71 by omega) (hal_ne (Nat.ne_of_lt (Nat.lt_of_lt_of_le ha (Nat.le_of_ble_eq_true rfl))) (hw_ne (show a ≠ 71 by omega) (hw_ne (show a ≠ 71 by omega) (hw_ne (show a ≠ 71 by omega) (hal_ne (Nat.ne_of_lt (Nat.lt_of_lt_of_le ha (Nat.le_of_ble_eq_true rfl))) (hw_ne (show a ≠ 71 by omega) (hal_ne (Nat.ne_of_lt (Nat.lt_of_lt_of_le ha (Nat.le_of_ble_eq_true rfl))) (hw_ne (show a ≠ 71 by omega) (hal_ne (Nat.ne_of_lt (Nat.lt_of_lt_of_le ha (Nat.le_of_ble_eq_true rfl))) (hw_ne (show a ≠ 71 by omega) (hal_ne (Nat.ne_of_lt (Nat.lt_of_lt_of_le ha (Nat.le_of_ble_eq_true rfl))) rfl))))))))))))))))))))))))))))))))))))))))))
