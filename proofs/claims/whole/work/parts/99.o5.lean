/-! netting: balances come to 0; the counts of all sets -/
theorem smk_pt {a v : Int} {nf : Nat} : ∀ n : Nat, smk (fun p => if p < nf ∧ a = (p : Int) then v else 0) n = if 0 ≤ a ∧ a < (nf : Int) ∧ a < (n : Int) then v else 0
  | 0 => by
    rw [if_neg (by omega)]
    rfl
  | n + 1 => by
    rw [smk, smk_pt n]
    by_cases c : n < nf ∧ a = (n : Int)
    · rw [if_pos c, if_neg (by omega), if_pos (by omega)]
      omega
    · rw [if_neg c]
      by_cases q : 0 ≤ a ∧ a < (nf : Int) ∧ a < (n : Int)
      · rw [if_pos q, if_pos (by omega)]
        omega
      · rw [if_neg q, if_neg (by omega)]
        rfl
theorem smk_lin {f g u w : Nat → Int} (h : ∀ p, f p = g p + u p - w p) : ∀ n : Nat, smk f n = smk g n + smk u n - smk w n
  | 0 => rfl
  | n + 1 => by
    rw [smk, smk, smk, smk, smk_lin h n, h n]
    omega
theorem blv_sum {dt ow am : Nat → Int} {nf : Nat} (hn : nf ≤ 8) : ∀ cn : Nat, (∀ j, j < cn → (0 ≤ dt j ∧ dt j < (nf : Int)) ∧ (0 ≤ ow j ∧ ow j < (nf : Int))) → smk (blv dt ow am cn nf) 8 = 0
  | 0, _ => by
    have : ∀ n : Nat, smk (blv dt ow am 0 nf) n = 0 := by
      intro n
      induction n with
      | zero => rfl
      | succ n ih =>
        rw [smk, ih, blv]
        split <;> rfl
    exact this 8
  | cn + 1, h => by
    have ih := blv_sum (am := am) hn cn (fun j hj => h j (by omega))
    have h9 := h cn (by omega)
    rw [smk_lin (g := blv dt ow am cn nf) (u := fun p => if p < nf ∧ ow cn = (p : Int) then am cn else 0) (w := fun p => if p < nf ∧ dt cn = (p : Int) then am cn else 0) (fun p => ?_) 8, ih, smk_pt, smk_pt, if_pos (by omega), if_pos (by omega)]
    · omega
    · unfold blv
      by_cases c : p < nf
      · rw [if_pos c, if_pos c, bal]
        by_cases c1 : ow cn = (p : Int)
        · by_cases c2 : dt cn = (p : Int)
          · rw [if_pos c1, if_pos c2, if_pos ⟨c, c1⟩, if_pos ⟨c, c2⟩]
          · rw [if_pos c1, if_neg c2, if_pos ⟨c, c1⟩, if_neg (fun z => c2 z.2)]
        · by_cases c2 : dt cn = (p : Int)
          · rw [if_neg c1, if_pos c2, if_neg (fun z => c1 z.2), if_pos ⟨c, c2⟩]
          · rw [if_neg c1, if_neg c2, if_neg (fun z => c1 z.2), if_neg (fun z => c2 z.2)]
      · rw [if_neg c, if_neg c, if_neg (fun z => c z.1), if_neg (fun z => c z.1)]
        rfl
theorem smb_opm {bl : Nat → Int} : ∀ n : Nat, n ≤ 8 → smb bl (opm bl 8) n = smk bl n
  | 0, _ => rfl
  | n + 1, h => by
    rw [smb, smk, smb_opm n (by omega)]
    have hb := opm_bit (bl := bl) 8 (Nat.le_refl _) n (by omega)
    by_cases c : bl n = 0
    · rw [if_neg (fun z => (hb.1 z).2 c), c]
    · rw [if_pos (hb.2 ⟨by omega, c⟩)]
theorem smb_cg {bl bm : Nat → Int} {S : Nat} (h : ∀ p, p < 8 → bl p = bm p) : ∀ n : Nat, n ≤ 8 → smb bl S n = smb bm S n
  | 0, _ => rfl
  | n + 1, hn => by rw [smb, smb, smb_cg h n (by omega), h n (by omega)]
theorem opm_cg {bl bm : Nat → Int} (h : ∀ p, p < 8 → bl p = bm p) : ∀ n : Nat, n ≤ 8 → opm bl n = opm bm n
  | 0, _ => rfl
  | n + 1, hn => by rw [opm, opm, opm_cg h n (by omega), h n (by omega)]
theorem pal_cg {bl bm : Nat → Int} {S : Nat} {n : nst} (h : ∀ p, p < 8 → bl p = bm p) : ∀ p : Nat, p ≤ 8 → pal bl S n p = pal bm S n p
  | 0, _ => rfl
  | p + 1, hp => by rw [pal, pal, pal_cg h p (by omega), h p (by omega)]
theorem nlp_cg {sm C bl bm : Nat → Int} (h : ∀ p, p < 8 → bl p = bm p) : ∀ (g S : Nat) (n : nst), nlp sm C bl g S n = nlp sm C bm g S n
  | 0, _, _ => rfl
  | g + 1, S, n => by
    rw [nlp, nlp, pal_cg h 8 (Nat.le_refl _)]
    split
    · rfl
    · exact nlp_cg h g _ _
def MI (sm M : Nat → Int) (op i : Nat) : Prop := (∀ t, t < i → dif t op = 0 → (t = 0 → M t = 0) ∧ (1 ≤ t → M t = fmS sm M t t) ∧ M t ≤ (t : Int)) ∧ ∀ q, q < 256 → -1 ≤ M q ∧ M q ≤ 255
theorem MI.st {sm M : Nat → Int} {op i : Nat} (H : MI sm M op i) (hi : i < 256) (hd : dif i op = 0) : MI sm (hc_u M i (if i = 0 then 0 else fmS sm M i i)) op (i + 1) := by
  have hv : -1 ≤ (if i = 0 then 0 else fmS sm M i i) ∧ (if i = 0 then 0 else fmS sm M i i) ≤ (i : Int) := by
    by_cases z : i = 0
    · rw [if_pos z]
      omega
    · rw [if_neg z]
      obtain ⟨i0, i1, i2⟩ := fm_ge (sm := sm) (M := M) (S := i) i
      refine ⟨i0, ?_⟩
      cases i2 with
      | inl y => omega
      | inr y =>
        obtain ⟨T, a, b, c, r⟩ := y
        have hl := dif_le (s := i) (t := T)
        have hn := dif_ne c.2.1 (tz_at (s := i) (by omega) hi).2
        have := (H.1 (dif i T) (by omega) (sub_tr dif_sub hd)).2.2
        omega
  refine ⟨fun t ht hdt => ?_, fun q hq => ?_⟩
  · by_cases z : t = i
    · rw [z]
      refine ⟨fun y => ?_, fun y => ?_, ?_⟩
      · rw [hu_s, if_pos y]
      · rw [hu_s, if_neg (by omega), fm_cg y hi (fun q hq => hu_n (by omega))]
      · rw [hu_s]
        exact hv.2
    · have h3 := H.1 t (by omega) hdt
      refine ⟨fun y => ?_, fun y => ?_, ?_⟩
      · rw [hu_n z]
        exact h3.1 y
      · rw [hu_n z, fm_cg y (by omega) (fun q hq => hu_n (by omega))]
        exact h3.2.1 y
      · rw [hu_n z]
        exact h3.2.2
  · by_cases z : q = i
    · rw [z, hu_s]
      omega
    · rw [hu_n z]
      exact H.2 q hq
theorem MI.no {sm M : Nat → Int} {op i : Nat} (H : MI sm M op i) (hd : ¬ dif i op = 0) : MI sm M op (i + 1) := by
  refine ⟨fun t ht hdt => ?_, H.2⟩
  by_cases z : t = i
  · rw [z] at hdt
    exact absurd hdt hd
  · exact H.1 t (by omega) hdt
theorem MI.mq {sm M : Nat → Int} {op : Nat} (H : MI sm M op (op + 1)) : MQn sm M op :=
  ⟨(H.1 0 (by omega) (dif_0.2 (fun i hi => by rw [Nat.zero_testBit] at hi; exact nomatch hi))).1 rfl, fun t h1 h2 => (H.1 t (by have := sub_le h2; omega) h2).2.1 h1⟩
theorem c_mfindA {d : Nat} {h : hc_H} {Q : List hc_V → hc_H → Prop} {S : Nat} {s sm M : Nat → Int} (hS : S < 256) (hM : ∀ q, q < 256 → -1 ≤ M q ∧ M q ≤ 255) (H71 : h.2.2 71 = mo s) (H81 : h.2.2 81 = ar 256 sm) (H82 : h.2.2 82 = ar 256 M) (k : ∀ h2, h2.2.2 82 = ar 256 (hc_u M S (if S = 0 then 0 else fmS sm M S S)) → Fr [82] h h2 → Q [] h2) : hc_wp (d + 2) mX10_findMost 0 [xR 71, xI (S : Int), none, none, none] [] h Q := by
  by_cases z : S = 0
  · subst z
    exact c_mfind0 H71 H82 (fun h2 A F => k h2 (by rw [if_pos rfl]; exact A) F)
  · exact c_mfind1 (by omega) hS (fun q hq => by have := hM q hq; omega) H71 H81 H82 (fun h2 A F => k h2 (by rw [if_neg z]; exact A) F)
set_option maxRecDepth 100000 in
theorem l_mnet4 {d : Nat} {h0 : hc_H} {Q : List hc_V → hc_H → Prop} {op : Nat} {s sm : Nat → Int} (hop : op < 256) (k : ∀ h2 M2 i2 l3, MQn sm M2 op → (∀ q, q < 256 → -1 ≤ M2 q ∧ M2 q ≤ 255) → h2.2.2 71 = mo s → h2.2.2 81 = ar 256 sm → h2.2.2 82 = ar 256 M2 → Fr [82] h0 h2 → hc_wp (d + 3) mX10_net 149 [xR 71, xI (op : Int), i2, l3] [] h2 Q) : ∀ (n i : Nat) (l3 : hc_V) (M : Nat → Int) (h : hc_H), (i ≤ op + 1 ∧ op + 1 < i + n) → MI sm M op i → h.2.2 71 = mo s → h.2.2 81 = ar 256 sm → h.2.2 82 = ar 256 M → Fr [82] h0 h → hc_wp (d + 3) mX10_net 125 [xR 71, xI (op : Int), xI (i : Int), l3] [] h Q := by
  intro n
  induction n with
  | zero =>
    intro i l3 M h hj
    exact absurd hj (by omega)
  | succ n ih =>
    intro i l3 M h hj HI H71 H81 H82 HF
    refine wp_go rfl rfl ?_
    refine wp_go rfl rfl ?_
    refine e_cgt rfl (fun c127 => ?_) (fun c127 => ?_)
    · skip
      rw [show i = op + 1 by omega] at HI
      exact k h M _ _ HI.mq HI.2 H71 H81 H82 HF
    · skip
      refine wp_go rfl rfl ?_
      refine wp_go rfl rfl ?_
      refine wp_go rfl rfl ?_
      refine wp_go rfl rfl ?_
      refine wp_go rfl rfl ?_
      rw [b_dif (show i < 256 by omega) hop]
      refine e_ifne rfl (fun c135 => ?_) (fun c135 => ?_)
      · skip
        refine e_inc (L' := [xR 71, xI (op : Int), xI ((i : Int) + 1), l3]) rfl rfl (by omega) rfl ?_
        refine wp_go rfl rfl ?_
        exact ih (i + 1) _ _ _ (by omega) (HI.no (by omega)) H71 H81 H82 HF
      · skip
        refine wp_go rfl rfl ?_
        refine wp_go rfl rfl ?_
        refine wp_cv rfl rfl rfl H71 rfl rfl rfl ?_
        refine c_mfindA (d := d) (S := i) (sm := sm) (M := M) (by omega) HI.2 H71 H81 H82 (fun h2 A2 F2 => ?_)
        refine e_inc (L' := [xR 71, xI (op : Int), xI ((i : Int) + 1), l3]) rfl rfl (by omega) rfl ?_
        refine wp_go rfl rfl ?_
        exact ih (i + 1) _ _ _ (by omega) (HI.st (by omega) (by omega)) ((F2.2.2 71 rfl).trans H71) ((F2.2.2 81 rfl).trans H81) A2 (HF.tr F2 (fun _ z => z))
