/-! the class: Reader, fourth part: ONE, and all of it -/
set_option maxRecDepth 100000 in
theorem cn_0 {B : Nat → Int} {n : Nat} {lw : Int} (H : BY B) (hn : n ≤ 300) (hlw : lw = 10 ∨ lw = 11) {f : Nat} (ih : ∀ m, m ≤ 9 → CON B n lw f m) : CON B n lw (f + 1) 0 := by
  intro o v i r hsp d h Q wc w0 wd cl co tl rb c l ho hd HT H55 H56 hb hlp hnl kok kf
  rw [sP_0] at hsp
  have x0 : mx 0 = 0 := rfl
  have x1 : mx 1 = 1 := rfl
  have x2 : mx 2 = 2 := rfl
  have x3 : mx 3 = 1 := rfl
  have x4 : mx 4 = 2 := rfl
  have x5 : mx 5 = 5 := rfl
  have x6 : mx 6 = 4 := rfl
  have x7 : mx 7 = 3 := rfl
  have x8 : mx 8 = 5 := rfl
  have x9 : mx 9 = 4 := rfl
  rw [x0] at hd kok hlp
  obtain ⟨d, rfl⟩ : ∃ z, d = z + 5 := ⟨d - 5, by omega⟩
  obtain rfl : wc = w0 := (hnl rfl).symm
  have hN := tN_bd (B := B) (n := n) (i := i)
  show hc_wp _ mX3_readOne 0 [xR 55, xI (o : Int)] [] h Q
  by_cases k3 : tK B n i = 3
  · rw [if_pos k3] at hsp
    have hlt0 := tK_lt H hn (show tK B n i ≠ 0 by omega)
    have H55k := H55
    rw [k3] at H55k
    refine wp_go rfl rfl ?_
    refine e_get rfl H55k rfl rfl ?_
    refine wp_go rfl rfl ?_
    refine wp_go rfl rfl ?_
    refine wp_go rfl rfl ?_
    refine wp_go rfl rfl ?_
    refine wp_go rfl rfl ?_
    refine wp_go rfl rfl ?_
    refine wp_cv rfl rfl rfl H55k rfl rfl rfl ?_
    refine c_tknL H hn HT (by omega) H55 (fun z => absurd k3 z) (fun _ z55 => ?_) (fun _ z55 => ?_)
    · skip
      rw [if_neg (show ¬ tN B n i ≤ 9999 by omega)] at hsp
      obtain rfl := Option.some.inj hsp
      refine wp_cv rfl rfl rfl rfl rfl rfl rfl ?_
      refine c_sayS (show RS _ cl co tl rb lw 2 ((tP B n (i) : Nat) : Int) (i) from ⟨wc, wd, by omega, rfl, H56, by decide⟩) (by omega) (fun h142 R142 F142 => ?_)
      obtain ⟨wc142, wd142, hw142, G142, E142, hf142⟩ := id R142
      refine wp_go rfl rfl ?_
      refine wp_ret rfl rfl ?_
      exact kf _ _ rfl _ R142 ((Fr.rf.wr rfl).tr F142 (fun _ z => z))
    · skip
      rw [if_pos (show tN B n i ≤ 9999 by omega)] at hsp
      refine wp_cv rfl rfl rfl rfl rfl rfl rfl ?_
      refine c_say (wc := wc) rfl H56 (by omega) (by omega) (fun _ => ?_) (fun z => absurd z (by omega))
      refine wp_go rfl rfl ?_
      refine wp_ret rfl rfl ?_
      obtain rfl := Option.some.inj hsp
      exact kok _ _ rfl _ (wc + 1) (hc_u wd (wc) ((tN B n i) * 64 + 3)) rfl rfl (by omega) (fun t ht => hu_n (by omega)) (GC_num hu_s (by omega) (by omega)) (fun z => absurd z (by decide)) (((Fr.rf.wr rfl).wr rfl).wr rfl)
  rw [if_neg k3] at hsp
  by_cases k50 : tK B n i = 50
  · rw [if_pos k50] at hsp
    have hlt0 := tK_lt H hn (show tK B n i ≠ 0 by omega)
    have H55k := H55
    rw [k50] at H55k
    refine wp_go rfl rfl ?_
    refine e_get rfl H55k rfl rfl ?_
    refine wp_go rfl rfl ?_
    refine wp_go rfl rfl ?_
    refine wp_go rfl rfl ?_
    refine wp_cv rfl rfl rfl H55k rfl rfl rfl ?_
    refine c_opens (q := o) H hn HT (by omega) H55 (fun z66 => ?_) (fun z66 => ?_)
    · skip
      rw [if_neg (show ¬ 8 ≤ o by omega)] at hsp
      refine wp_go rfl rfl ?_
      refine wp_go rfl rfl ?_
      refine wp_go rfl rfl ?_
      refine wp_go rfl rfl ?_
      refine e_iadd rfl (by omega) ?_
      refine wp_cv rfl rfl rfl rfl rfl rfl rfl ?_
      rw [show ((o : Int) + 1) = ((o + 1 : Nat) : Int) by omega]
      obtain ⟨q143, hq143, hsp⟩ := sb_some hsp
      refine ih 2 (by decide) (o + 1) v (i + 1) q143 hq143 _ _ _ (wc) (wc) wd cl co tl rb 0 none (by omega) (by omega) HT.w5 rfl H56 (by omega) (fun z => absurd z (by decide)) (fun _ => rfl) (fun j143 V143 e143 h143 wc143 wd143 A143 E143 P143 T143 B143 J143 F143 => ?_) (fun fl143 k143 e143 h143 R143 F143 => ?_)
      · skip
        subst e143
        dsimp only [sb] at hsp
        refine wp_go rfl rfl ?_
        refine wp_go rfl rfl ?_
        refine wp_cv rfl rfl rfl A143 rfl rfl rfl ?_
        refine c_expL H hn (HT.w5.fr F143 rfl) (by omega) A143 (fun z82 => ?_) (fun z82 => ?_)
        · skip
          rw [if_pos z82] at hsp
          have hlt82 := tK_lt H hn (show tK B n (j143) ≠ 0 by rw [z82]; decide)
          refine wp_go rfl rfl ?_
          refine wp_ret rfl rfl ?_
          obtain rfl := Option.some.inj hsp
          exact kok _ _ rfl _ (wc143) wd143 rfl E143 (by omega) T143 (B143.mono (by omega) (fun t h1 h2 => rfl)) (fun z => absurd z (by decide)) (((Fr.rf.wr rfl).tr F143 (fun _ z => z)).wr rfl)
        · skip
          rw [if_neg z82] at hsp
          obtain rfl := Option.some.inj hsp
          refine wp_go rfl rfl ?_
          refine wp_ret rfl rfl ?_
          exact kf _ _ rfl _ (show RS _ cl co tl rb lw 1 ((tP B n (j143) : Nat) : Int) (j143) from ⟨wc143, wd143, by omega, rfl, E143, by decide⟩) (((Fr.rf.wr rfl).tr F143 (fun _ z => z)).wr rfl)
      · skip
        subst e143
        dsimp only [sb] at hsp
        obtain rfl := Option.some.inj hsp
        obtain ⟨wy143, wx143, hw143, G143, E143, hf143⟩ := id R143
        refine wp_go rfl rfl ?_
        refine wp_go rfl rfl ?_
        refine wp_cv rfl rfl rfl G143 rfl rfl rfl ?_
        refine c_expS G143 hf143 (by decide) ?_
        refine wp_go rfl rfl ?_
        refine wp_ret rfl rfl ?_
        exact kf _ _ rfl _ R143 ((Fr.rf.wr rfl).tr F143 (fun _ z => z))
    · skip
      rw [if_pos z66] at hsp
      obtain rfl := Option.some.inj hsp
      refine wp_go rfl rfl ?_
      refine wp_ret rfl rfl ?_
      exact kf _ _ rfl _ (show RS _ cl co tl rb lw 3 ((tP B n (i) : Nat) : Int) (i) from ⟨wc, wd, by omega, rfl, H56, by decide⟩) (Fr.rf.wr rfl)
  rw [if_neg k50] at hsp
  by_cases k47 : tK B n i = 47
  · rw [if_pos k47] at hsp
    have hlt0 := tK_lt H hn (show tK B n i ≠ 0 by omega)
    have H55k := H55
    rw [k47] at H55k
    refine wp_go rfl rfl ?_
    refine e_get rfl H55k rfl rfl ?_
    refine wp_go rfl rfl ?_
    refine wp_go rfl rfl ?_
    refine wp_go rfl rfl ?_
    refine wp_cv rfl rfl rfl H55k rfl rfl rfl ?_
    refine c_opens (q := o) H hn HT (by omega) H55 (fun z90 => ?_) (fun z90 => ?_)
    · skip
      rw [if_neg (show ¬ 8 ≤ o by omega)] at hsp
      refine wp_go rfl rfl ?_
      refine wp_go rfl rfl ?_
      refine wp_go rfl rfl ?_
      refine wp_go rfl rfl ?_
      refine e_iadd rfl (by omega) ?_
      refine wp_cv rfl rfl rfl rfl rfl rfl rfl ?_
      rw [show ((o : Int) + 1) = ((o + 1 : Nat) : Int) by omega]
      obtain ⟨q144, hq144, hsp⟩ := sb_some hsp
      refine ih 0 (by decide) (o + 1) v (i + 1) q144 hq144 _ _ _ (wc) (wc) wd cl co tl rb 0 none (by omega) (by omega) HT.w5 rfl H56 (by omega) (fun z => absurd z (by decide)) (fun _ => rfl) (fun j144 V144 e144 h144 wc144 wd144 A144 E144 P144 T144 B144 J144 F144 => ?_) (fun fl144 k144 e144 h144 R144 F144 => ?_)
      · skip
        subst e144
        dsimp only [sb] at hsp
        refine wp_go rfl rfl ?_
        refine wp_go rfl rfl ?_
        refine wp_go rfl rfl ?_
        refine wp_cv rfl rfl rfl A144 rfl rfl rfl ?_
        refine c_say (wc := wc144) A144 E144 (by omega) (by omega) (fun _ => ?_) (fun z => absurd z (by omega))
        refine wp_go rfl rfl ?_
        refine wp_ret rfl rfl ?_
        obtain rfl := Option.some.inj hsp
        exact kok _ _ rfl _ (wc144 + 1) (hc_u wd144 (wc144) (0 * 64 + 5)) rfl rfl (by omega) (fun t ht => (hu_n (by omega)).trans (T144 t ht)) (GC_neg (B144.mono (Nat.le_refl _) (fun t h1 h2 => hu_n (by omega))) (by omega) hu_s (by omega)) (fun z => absurd z (by decide)) ((((Fr.rf.wr rfl).tr F144 (fun _ z => z)).wr rfl).wr rfl)
      · skip
        subst e144
        dsimp only [sb] at hsp
        obtain rfl := Option.some.inj hsp
        obtain ⟨wy144, wx144, hw144, G144, E144, hf144⟩ := id R144
        refine wp_go rfl rfl ?_
        refine wp_go rfl rfl ?_
        refine wp_go rfl rfl ?_
        refine wp_cv rfl rfl rfl G144 rfl rfl rfl ?_
        refine c_sayS R144 (by omega) (fun h145 R145 F145 => ?_)
        obtain ⟨wc145, wd145, hw145, G145, E145, hf145⟩ := id R145
        refine wp_go rfl rfl ?_
        refine wp_ret rfl rfl ?_
        exact kf _ _ rfl _ R145 (((Fr.rf.wr rfl).tr F144 (fun _ z => z)).tr F145 (fun _ z => z))
    · skip
      rw [if_pos z90] at hsp
      obtain rfl := Option.some.inj hsp
      refine wp_go rfl rfl ?_
      refine wp_ret rfl rfl ?_
      exact kf _ _ rfl _ (show RS _ cl co tl rb lw 3 ((tP B n (i) : Nat) : Int) (i) from ⟨wc, wd, by omega, rfl, H56, by decide⟩) (Fr.rf.wr rfl)
  rw [if_neg k47] at hsp
  by_cases k18 : tK B n i = 18
  · rw [if_pos k18] at hsp
    have hlt0 := tK_lt H hn (show tK B n i ≠ 0 by omega)
    have H55k := H55
    rw [k18] at H55k
    refine wp_go rfl rfl ?_
    refine e_get rfl H55k rfl rfl ?_
    refine wp_go rfl rfl ?_
    refine wp_go rfl rfl ?_
    refine wp_go rfl rfl ?_
    refine wp_cv rfl rfl rfl H55k rfl rfl rfl ?_
    refine c_opens (q := o) H hn HT (by omega) H55 (fun z114 => ?_) (fun z114 => ?_)
    · skip
      rw [if_neg (show ¬ 8 ≤ o by omega)] at hsp
      refine wp_go rfl rfl ?_
      refine wp_go rfl rfl ?_
      refine wp_go rfl rfl ?_
      refine wp_go rfl rfl ?_
      refine e_iadd rfl (by omega) ?_
      refine wp_cv rfl rfl rfl rfl rfl rfl rfl ?_
      rw [show ((o : Int) + 1) = ((o + 1 : Nat) : Int) by omega]
      refine cn_ch H hn ih (o := o + 1) (v := v) (i := i + 1) (r := r) hsp (wc := wc) (wd := wd) (by omega) (by omega) HT.w5 rfl H56 (by omega) (fun j146 V146 e146 h146 wc146 wd146 A146 E146 P146 T146 B146 J146 F146 => ?_) (fun fl146 k146 e146 h146 R146 F146 => ?_)
      · skip
        subst e146
        refine wp_go rfl rfl ?_
        refine wp_ret rfl rfl ?_
        exact kok _ _ rfl _ _ _ A146 E146 (by omega) T146 (B146.mono (by omega) (fun t h1 h2 => rfl)) J146 ((Fr.rf.wr rfl).tr F146 (fun _ z => z))
      · skip
        subst e146
        obtain ⟨wy146, wx146, hw146, G146, E146, hf146⟩ := id R146
        refine wp_go rfl rfl ?_
        refine wp_ret rfl rfl ?_
        exact kf _ _ rfl _ R146 ((Fr.rf.wr rfl).tr F146 (fun _ z => z))
    · skip
      rw [if_pos z114] at hsp
      obtain rfl := Option.some.inj hsp
      refine wp_go rfl rfl ?_
      refine wp_ret rfl rfl ?_
      exact kf _ _ rfl _ (show RS _ cl co tl rb lw 3 ((tP B n (i) : Nat) : Int) (i) from ⟨wc, wd, by omega, rfl, H56, by decide⟩) (Fr.rf.wr rfl)
  rw [if_neg k18] at hsp
  refine wp_go rfl rfl ?_
  refine e_get rfl H55 rfl rfl ?_
  refine e_lswd rfl ?_ (by decide) rfl ?_
  · show Op.lookupswitch.offset [(3, 44), (18, 108), (47, 84), (50, 60)] _ _ = _
    simp only [Op.lookupswitch.offset_cons, Op.lookupswitch.offset_nil]
    rw [if_neg (Ne.symm k3), if_neg (Ne.symm k18), if_neg (Ne.symm k47), if_neg (Ne.symm k50)]
  refine wp_go rfl rfl ?_
  refine wp_cv rfl rfl rfl H55 rfl rfl rfl ?_
  refine c_nameL H hn HT hb.1 hb.2.1 hlw H55 H56 (fun z => ?_) (fun z1 z => ?_) (fun z1 z => ?_)
  · skip
    rw [if_neg z] at hsp
    obtain rfl := Option.some.inj hsp
    refine wp_ret rfl rfl ?_
    exact kf _ _ rfl _ (show RS _ cl co tl rb lw 1 ((tP B n (i) : Nat) : Int) (i) from ⟨wc, wd, by omega, rfl, H56, by decide⟩) (Fr.rf.wr rfl)
  · skip
    rw [if_pos z1, if_neg (nt z)] at hsp
    obtain rfl := Option.some.inj hsp
    refine wp_ret rfl rfl ?_
    exact kf _ _ rfl _ (show RS _ cl co tl rb lw 5 ((tP B n (i) : Nat) : Int) (i) from ⟨wc, wd, by omega, rfl, H56, by decide⟩) (Fr.rf.wr rfl)
  · skip
    rw [if_pos z1, if_pos z] at hsp
    have hlt := tK_lt H hn (show tK B n i ≠ 0 by omega)
    refine wp_ret rfl rfl ?_
    obtain rfl := Option.some.inj hsp
    exact kok _ _ rfl _ (wc + 1) (hc_u wd wc (tK B n i * 64 + 4)) rfl rfl (by omega) (fun t ht => hu_n (by omega)) (GC_name hu_s z1 hlw z (by omega)) (fun z => absurd z (by decide)) ((Fr.rf.wr rfl).wr rfl)
theorem cn_all {B : Nat → Int} {n : Nat} {lw : Int} (H : BY B) (hn : n ≤ 300) (hlw : lw = 10 ∨ lw = 11) : ∀ (f m : Nat), m ≤ 9 → CON B n lw f m := by
  intro f
  induction f with
  | zero =>
    intro m _ o v i r hsp
    exact absurd hsp (by simp [sP])
  | succ f ih =>
    intro m hm
    match m, hm with
    | 0, _ => exact cn_0 H hn hlw ih
    | 1, _ => exact cn_1 H hn hlw ih
    | 2, _ => exact cn_2 H hn hlw ih
    | 3, _ => exact cn_3 H hn hlw ih
    | 4, _ => exact cn_4 H hn hlw ih
    | 5, _ => exact cn_5 H hn hlw ih
    | 6, _ => exact cn_6 H hn hlw ih
    | 7, _ => exact cn_7 H hn hlw ih
    | 8, _ => exact cn_8 H hn hlw ih
    | 9, _ => exact cn_9 H hn hlw ih
    | m + 10, h => exact absurd h (by omega)
