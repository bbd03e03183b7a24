/-! the class: Marrying, sixth part: the whole of it -/
set_option maxRecDepth 100000 in
theorem c_mwork {d : Nat} {h : hc_H} {Q : List hc_V → hc_H → Prop} {nf : Nat} {tg : Int} {mk lw ls ch pt : Nat → Int} (hnf : nf ≤ 8) (hM : MK nf mk) (H65 : h.2.2 65 = mar tg) (H66 : h.2.2 66 = ar 64 lw) (H67 : h.2.2 67 = ar 256 ls) (H68 : h.2.2 68 = ar 256 ch) (H69 : h.2.2 69 = ar 8 pt) (H27 : h.2.2 27 = ar 8 mk) (HL : LB lw) (k : ∀ h2 lw2 (ev : Nat), ev + 1 = 2 ^ nf → LB lw2 → LW lw2 mk nf nf → h2.2.2 65 = mar ((mit lw2 ls ch nf ev).1 ev) → h2.2.2 66 = ar 64 lw2 → h2.2.2 67 = ar 256 (mit lw2 ls ch nf ev).1 → h2.2.2 68 = ar 256 (mit lw2 ls ch nf ev).2 → h2.2.2 69 = ar 8 (pit (mit lw2 ls ch nf ev).2 ev pt nf).2 → Fr [65, 66, 67, 68, 69] h h2 → Q [] h2) : hc_wp (d + 3) mX1_work 0 [xR 65, xR 27, xI (nf : Int), none, none, none, none, none] [] h Q := by
  refine wp_go rfl rfl ?_
  refine wp_go rfl rfl ?_
  refine wp_go rfl rfl ?_
  refine wp_go rfl rfl ?_
  refine wp_go rfl rfl ?_
  refine e_istn (L' := [xR 65, xR 27, xI (nf : Int), xI (if 0 < (if 8 < (nf : Int) then 8 else (nf : Int)) then (if 8 < (nf : Int) then 8 else (nf : Int)) else 0), none, none, none, none]) rfl rfl rfl ?_
  show hc_wp (d + 3) mX1_work 11 [xR 65, xR 27, xI (nf : Int), xI (if (0 : Int) < (if (8 : Int) < (nf : Int) then (8 : Int) else (nf : Int)) then (if (8 : Int) < (nf : Int) then (8 : Int) else (nf : Int)) else 0), none, none, none, none] [] h Q
  rw [show (if (0 : Int) < (if (8 : Int) < (nf : Int) then (8 : Int) else (nf : Int)) then (if (8 : Int) < (nf : Int) then (8 : Int) else (nf : Int)) else 0) = (nf : Int) by rw [if_neg (show ¬ (8 : Int) < (nf : Int) by omega)]; split <;> omega]
  refine wp_go rfl rfl ?_
  refine wp_go rfl rfl ?_
  refine wp_go rfl rfl ?_
  refine wp_cv rfl rfl rfl H65 rfl rfl rfl ?_
  refine c_findLowers hnf hM H65 H66 H27 HL (fun h1 lw1 A1 A2 A3 A4 A5 F1 => ?_)
  have G67 := (F1.2.2 67 rfl).trans H67
  have G68 := (F1.2.2 68 rfl).trans H68
  have G69 := (F1.2.2 69 rfl).trans H69
  refine wp_go rfl rfl ?_
  refine wp_go rfl rfl ?_
  refine wp_go rfl rfl ?_
  rw [shl1 nf hnf]
  have hpw := pow8 hnf
  have hpp : 1 ≤ 2 ^ nf := Nat.one_le_two_pow
  obtain ⟨ev, hev⟩ : ∃ z : Nat, z + 1 = 2 ^ nf := ⟨2 ^ nf - 1, by omega⟩
  refine wp_go rfl rfl ?_
  refine e_isub rfl (by omega) ?_
  refine e_ist (L' := [xR 65, xR 27, xI (nf : Int), xI (nf : Int), xI (((2 ^ nf : Nat) : Int) - 1), none, none, none]) rfl rfl rfl ?_
  rw [show ((2 ^ nf : Nat) : Int) - 1 = (ev : Int) by omega]
  refine wp_go rfl rfl ?_
  refine e_get rfl A1 rfl rfl ?_
  refine wp_go rfl rfl ?_
  refine wp_go rfl rfl ?_
  refine e_iast rfl G67 (by omega) ?_
  refine wp_go rfl rfl ?_
  refine e_ist (L' := [xR 65, xR 27, xI (nf : Int), xI (nf : Int), xI (ev : Int), xI 1, none, none]) rfl rfl rfl ?_
  refine l_sets (d := d + 1) (ls := ls) (ch := ch) hnf ⟨hev, by omega⟩ A4 (fun h2 q2 B1 B2 B3 B4 B5 B6 F2 => ?_) (ev + 1) 0 _ _ rfl (by omega) A1 A2 rfl G68 ?_ (fun t h1 h2 => absurd h1 (by omega)) Fr.rf trivial
  rotate_left
  · intro t ht
    rw [show t = 0 by omega]
    exact ⟨Int.le_refl 0, Int.le_refl 0⟩
  refine wp_go rfl rfl ?_
  refine wp_go rfl rfl ?_
  refine e_get rfl B1 rfl rfl ?_
  refine wp_go rfl rfl ?_
  refine e_ald rfl B3 rfl (by omega) ?_
  rw [Int.toNat_natCast]
  refine e_put (fs' := [xR 66, xR 67, xR 68, xR 69, xI ((mit lw1 ls ch nf ev).1 ev)]) rfl B1 rfl rfl ?_
  refine wp_go rfl rfl ?_
  refine e_ist (L' := [xR 65, xR 27, xI (nf : Int), xI (nf : Int), xI (ev : Int), xI (ev : Int), none, none]) rfl rfl rfl ?_
  refine wp_go rfl rfl ?_
  refine e_ist (L' := [xR 65, xR 27, xI (nf : Int), xI (nf : Int), xI (ev : Int), xI (ev : Int), xI 0, none]) rfl rfl rfl ?_
  refine l_part (d := d + 1) (pt := pt) hnf (by omega) B6 (fun h3 sg2 pt3 P1 P2 F3 => ?_) (nf + 1) 0 ev pt 0 _ _ rfl (by omega) (by omega) rfl rfl B4 ((F2.2.2 69 rfl).trans G69) Fr.rf trivial
  have P3 : pt3 = (pit (mit lw1 ls ch nf ev).2 ev pt nf).2 := by rw [← P1]
  rw [P3] at P2
  refine k h3 lw1 ev hev A4 A5 ((F3.2.2 65 rfl).trans rfl) ((F3.2.2 66 rfl).trans B2) ((F3.2.2 67 rfl).trans B3) ((F3.2.2 68 rfl).trans B4) P2 ?_
  exact (((Fr.tr (l2 := [65, 66, 67, 68, 69]) (Fr.mono F1 (nin_sub rfl)) (Fr.rf.wr rfl) (fun _ z => z)).tr (Fr.mono F2 (nin_sub rfl)) (fun _ z => z)).wr rfl).tr (Fr.mono F3 (nin_sub rfl)) (fun _ z => z)
