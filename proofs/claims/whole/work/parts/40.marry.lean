/-! the class: Marrying, third part: one set -/
set_option maxRecDepth 100000 in
theorem c_marryLowest {d : Nat} {h : hc_H} {Q : List hc_V → hc_H → Prop} {s al : Nat} {tg : Int} {lw ls ch : Nat → Int} (hs : 1 ≤ s ∧ s < 256) (hal : al ≤ 8) (hone : tz s < al) (H65 : h.2.2 65 = mar tg) (H66 : h.2.2 66 = ar 64 lw) (H67 : h.2.2 67 = ar 256 ls) (H68 : h.2.2 68 = ar 256 ch) (HL : LB lw) (HS : LSB ls s) (k : ∀ r, r = mfn lw ls s al → ((r.1 = -1 ∧ r.2 = ls s) ∨ ((0 ≤ r.1 ∧ r.1 < 8) ∧ 0 ≤ r.2 ∧ r.2 ≤ 720720 * (s : Int))) → ∀ h2, h2.2.2 65 = mar tg → h2.2.2 66 = ar 64 lw → h2.2.2 67 = ar 256 (hc_u ls s r.2) → h2.2.2 68 = ar 256 (hc_u ch s r.1) → Fr [67, 68] h h2 → Q [] h2) : hc_wp (d + 1) mX1_marryLowestOf 0 [xR 65, xI ((s : Nat) : Int), xI (al : Int), none, none, none, none, none] [] h Q := by
  have hbt := tz_bit' ⟨s, hs.2⟩ hs.1
  have hb7 := tz_bd s
  dsimp only at hbt
  refine wp_go rfl rfl ?_
  refine wp_call rfl rfl rfl rfl ?_
  refine c_ctz hs.1 hs.2 ?_
  obtain ⟨one, hon⟩ : ∃ z : Nat, z = tz s := ⟨_, rfl⟩
  rw [← hon] at hone hbt hb7 ⊢
  refine e_istn (L' := [xR 65, xI ((s : Nat) : Int), xI (al : Int), xI (one : Int), none, none, none, none]) rfl rfl rfl ?_
  refine wp_go rfl rfl ?_
  refine wp_go rfl rfl ?_
  refine e_cge rfl (fun c7 => absurd c7 (by omega)) (fun c7 => ?_)
  refine wp_go rfl rfl ?_
  refine wp_go rfl rfl ?_
  refine e_clt rfl (fun c13 => ?_) (fun c13 => absurd c13 (by omega))
  refine wp_go rfl rfl ?_
  refine wp_go rfl rfl ?_
  refine wp_go rfl rfl ?_
  refine wp_go rfl rfl ?_
  refine wp_go rfl rfl ?_
  refine wp_go rfl rfl ?_
  refine wp_go rfl rfl ?_
  rw [b_clr hs.2 (by omega)]
  have hcl := (clr_lt (s := s) (p := one) hs.2 (by omega)).2.1 hbt
  obtain ⟨rest, hre⟩ : ∃ z : Nat, z = clr s one := ⟨_, rfl⟩
  rw [← hre] at hcl ⊢
  refine e_ist (L' := [xR 65, xI ((s : Nat) : Int), xI (al : Int), xI (one : Int), xI (rest : Int), none, none, none]) rfl rfl rfl ?_
  refine wp_go rfl rfl ?_
  refine e_ist (L' := [xR 65, xI ((s : Nat) : Int), xI (al : Int), xI (one : Int), xI (rest : Int), xI (-1), none, none]) rfl rfl rfl ?_
  refine wp_go rfl rfl ?_
  refine wp_go rfl rfl ?_
  refine e_iadd rfl (by omega) ?_
  refine e_ist (L' := [xR 65, xI ((s : Nat) : Int), xI (al : Int), xI (one : Int), xI (rest : Int), xI (-1), xI ((one : Int) + 1), none]) rfl rfl rfl ?_
  refine l_ml (one := one) (rest := rest) (v0 := ls s) hs hal hone hcl HL HS (fun h2 f v q l7 A B C hm hv F => ?_) (al + 1) (one + 1) _ _ (ls s) _ h rfl (by omega) (mst_0 _ (by omega)) (Or.inl ⟨rfl, rfl⟩) H65 H66 (by rw [u_id]; exact H67) Fr.rf trivial
  refine wp_go rfl rfl ?_
  refine wp_call rfl rfl rfl rfl ?_
  refine c_bitCount hs.2 ?_
  refine wp_go rfl rfl ?_
  refine e_irem rfl (by omega) ?_
  rw [show Int.tmod ((pcn s : Nat) : Int) 2 = ((pcn s % 2 : Nat) : Int) from rfl]
  refine wp_go rfl rfl ?_
  refine e_cne rfl (fun c122 => ?_) (fun c122 => ?_)
  · skip
    refine wp_go rfl rfl ?_
    refine e_ist (L' := [xR 65, xI ((s : Nat) : Int), xI (al : Int), xI (one : Int), xI (rest : Int), xI f, xI 0, l7]) rfl rfl rfl ?_
    have hlb := HL (one * 8 + one) (by omega)
    have hls := HS rest (by omega)
    refine wp_go rfl rfl ?_
    refine e_get rfl A rfl rfl ?_
    refine wp_go rfl rfl ?_
    refine wp_go rfl rfl ?_
    refine e_imul rfl (by omega) ?_
    refine wp_go rfl rfl ?_
    refine e_iadd rfl (by omega) ?_
    refine e_ald rfl B rfl (by omega) ?_
    rw [show Int.toNat ((one : Int) * 8 + (one : Int)) = one * 8 + one by omega]
    refine wp_go rfl rfl ?_
    refine e_get rfl A rfl rfl ?_
    refine wp_go rfl rfl ?_
    refine e_ald rfl C rfl (by omega) ?_
    rw [Int.toNat_natCast, u_ne (show rest ≠ s by omega)]
    refine e_iadd rfl (by omega) ?_
    refine e_ist (L' := [xR 65, xI ((s : Nat) : Int), xI (al : Int), xI (one : Int), xI (rest : Int), xI f, xI 0, xI ((lw (one * 8 + one)) + (ls rest))]) rfl rfl rfl ?_
    obtain ⟨aw, haw⟩ : ∃ z : Int, z = lw (one * 8 + one) + ls rest := ⟨_, rfl⟩
    rw [← haw]
    refine wp_go rfl rfl ?_
    refine wp_go rfl rfl ?_
    refine wp_go rfl rfl ?_
    refine e_get rfl A rfl rfl ?_
    refine wp_go rfl rfl ?_
    refine wp_go rfl rfl ?_
    refine e_iast rfl ((F.2.2 68 rfl).trans H68) (by omega) ?_
    refine wp_ret rfl rfl ?_
    rw [Int.toNat_natCast]
    have key : (f, v) = mfn lw ls s al := by
      unfold mfn
      rw [← hon, ← hre, ← hm, ← haw]
      rw [if_neg (by dsimp only; omega)]
    refine k _ key hv _ A B C rfl ((Fr.tr (l2 := [67, 68]) (Fr.mono F (nin_sub rfl)) (Fr.rf.wr rfl) (fun _ z => z)))
  · skip
    refine wp_go rfl rfl ?_
    refine wp_go rfl rfl ?_
    refine e_ist (L' := [xR 65, xI ((s : Nat) : Int), xI (al : Int), xI (one : Int), xI (rest : Int), xI f, xI 1, l7]) rfl rfl rfl ?_
    have hlb := HL (one * 8 + one) (by omega)
    have hls := HS rest (by omega)
    refine wp_go rfl rfl ?_
    refine e_get rfl A rfl rfl ?_
    refine wp_go rfl rfl ?_
    refine wp_go rfl rfl ?_
    refine e_imul rfl (by omega) ?_
    refine wp_go rfl rfl ?_
    refine e_iadd rfl (by omega) ?_
    refine e_ald rfl B rfl (by omega) ?_
    rw [show Int.toNat ((one : Int) * 8 + (one : Int)) = one * 8 + one by omega]
    refine wp_go rfl rfl ?_
    refine e_get rfl A rfl rfl ?_
    refine wp_go rfl rfl ?_
    refine e_ald rfl C rfl (by omega) ?_
    rw [Int.toNat_natCast, u_ne (show rest ≠ s by omega)]
    refine e_iadd rfl (by omega) ?_
    refine e_ist (L' := [xR 65, xI ((s : Nat) : Int), xI (al : Int), xI (one : Int), xI (rest : Int), xI f, xI 1, xI ((lw (one * 8 + one)) + (ls rest))]) rfl rfl rfl ?_
    obtain ⟨aw, haw⟩ : ∃ z : Int, z = lw (one * 8 + one) + ls rest := ⟨_, rfl⟩
    rw [← haw]
    refine wp_go rfl rfl ?_
    refine wp_go rfl rfl ?_
    refine wp_go rfl rfl ?_
    refine wp_go rfl rfl ?_
    refine e_ceq rfl (fun c161 => ?_) (fun c161 => ?_)
    · skip
      refine wp_go rfl rfl ?_
      refine e_get rfl A rfl rfl ?_
      refine wp_go rfl rfl ?_
      refine wp_go rfl rfl ?_
      refine e_iast rfl C (by omega) ?_
      rw [Int.toNat_natCast, u_u]
      refine wp_go rfl rfl ?_
      refine e_ist (L' := [xR 65, xI ((s : Nat) : Int), xI (al : Int), xI (one : Int), xI (rest : Int), xI (one : Int), xI 1, xI aw]) rfl rfl rfl ?_
      refine wp_go rfl rfl ?_
      refine e_get rfl A rfl rfl ?_
      refine wp_go rfl rfl ?_
      refine wp_go rfl rfl ?_
      refine e_iast rfl ((F.2.2 68 rfl).trans H68) (by omega) ?_
      refine wp_ret rfl rfl ?_
      rw [Int.toNat_natCast]
      have key : ((one : Int), aw) = mfn lw ls s al := by
        unfold mfn
        rw [← hon, ← hre, ← hm, ← haw]
        rw [if_pos (by dsimp only; omega)]
      refine k _ key (Or.inr (by dsimp only; omega)) _ A B rfl rfl ((Fr.tr (l2 := [67, 68]) (Fr.mono F (nin_sub rfl)) ((Fr.rf.wr rfl).wr rfl) (fun _ z => z)))
    · skip
      refine wp_go rfl rfl ?_
      refine wp_go rfl rfl ?_
      refine e_get rfl A rfl rfl ?_
      refine wp_go rfl rfl ?_
      refine e_ald rfl C rfl (by omega) ?_
      rw [Int.toNat_natCast, u_at]
      refine e_cge rfl (fun c172 => ?_) (fun c172 => ?_)
      · skip
        refine wp_go rfl rfl ?_
        refine e_get rfl A rfl rfl ?_
        refine wp_go rfl rfl ?_
        refine wp_go rfl rfl ?_
        refine e_iast rfl ((F.2.2 68 rfl).trans H68) (by omega) ?_
        refine wp_ret rfl rfl ?_
        rw [Int.toNat_natCast]
        have key : (f, v) = mfn lw ls s al := by
          unfold mfn
          rw [← hon, ← hre, ← hm, ← haw]
          rw [if_neg (by dsimp only; omega)]
        refine k _ key hv _ A B C rfl ((Fr.tr (l2 := [67, 68]) (Fr.mono F (nin_sub rfl)) (Fr.rf.wr rfl) (fun _ z => z)))
      · skip
        refine wp_go rfl rfl ?_
        refine e_get rfl A rfl rfl ?_
        refine wp_go rfl rfl ?_
        refine wp_go rfl rfl ?_
        refine e_iast rfl C (by omega) ?_
        rw [Int.toNat_natCast, u_u]
        refine wp_go rfl rfl ?_
        refine e_ist (L' := [xR 65, xI ((s : Nat) : Int), xI (al : Int), xI (one : Int), xI (rest : Int), xI (one : Int), xI 1, xI aw]) rfl rfl rfl ?_
        refine wp_go rfl rfl ?_
        refine e_get rfl A rfl rfl ?_
        refine wp_go rfl rfl ?_
        refine wp_go rfl rfl ?_
        refine e_iast rfl ((F.2.2 68 rfl).trans H68) (by omega) ?_
        refine wp_ret rfl rfl ?_
        rw [Int.toNat_natCast]
        have key : ((one : Int), aw) = mfn lw ls s al := by
          unfold mfn
          rw [← hon, ← hre, ← hm, ← haw]
          rw [if_pos (by dsimp only; omega)]
        refine k _ key (Or.inr (by dsimp only; omega)) _ A B rfl rfl ((Fr.tr (l2 := [67, 68]) (Fr.mono F (nin_sub rfl)) ((Fr.rf.wr rfl).wr rfl) (fun _ z => z)))
