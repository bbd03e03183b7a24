/-! the class: becoming like another town -/
def cc {α : Type} (n : Nat) (f g : Nat → α) : Nat → α := fun j => if j < n then f j else g j
theorem cpy_c {f g : Nat → Int} {m : Int} : hc_cpy f g (Int.toNat 0) (Int.toNat 0) (Int.toNat m) = cc (Int.toNat m) f g := by
  funext j
  unfold hc_cpy cc
  by_cases c : j < Int.toNat m
  · rw [if_pos ⟨Nat.zero_le _, by show j < 0 + Int.toNat m; omega⟩, if_pos c]
    show f (0 + (j - 0)) = f j
    congr 1
    omega
  · rw [if_neg (fun z => c (by have : j < 0 + Int.toNat m := z.2; omega)), if_neg c]
theorem cc_u {α : Type} {f g : Nat → α} {n : Nat} : hc_u (cc n f g) n (f n) = cc (n + 1) f g := by
  funext j
  unfold hc_u cc
  by_cases h : j = n
  · subst h
    rw [if_pos rfl, if_pos (by omega)]
  · rw [if_neg h]
    by_cases h2 : j < n
    · rw [if_pos h2, if_pos (by omega)]
    · rw [if_neg h2, if_neg (by omega)]
theorem cc_0 {α : Type} {f g : Nat → α} : cc 0 f g = g := by
  funext j
  simp [cc]
def TT (h : hc_H) (q : Option Nat) : Prop := match q with
  | none => True
  | some t => 91 ≤ t ∧ ∃ fs, h.2.2 t = .inr (5, fs)
theorem TT.isT {h : hc_H} {q : Option Nat} (H : TT h q) : hc_isT h q = true := by
  match q, H with
  | none, _ => rfl
  | some t, ⟨_, fs, e⟩ =>
    simp only [hc_isT, e]
    rfl
theorem TT.kept {h h' : hc_H} {q : Option Nat} (H : TT h q) (hk : ∀ a, 91 ≤ a → h'.2.2 a = h.2.2 a) : TT h' q := by
  match q, H with
  | none, _ => trivial
  | some t, ⟨a, fs, e⟩ => exact ⟨a, fs, (hk t a).trans e⟩
abbrev tw2 (fk dy rn x wt tc ru sc : Int) : hc_E := .inr (7, [xR 38, xI fk, xR 41, xR 42, xI dy, xI rn, xI x, xI wt, xR 43, xI tc, xI ru, xR 44, xR 46, xR 50, xI sc])
abbrev stp2 (fs ct : Int) : hc_E := .inr (4, [xR 45, xI fs, xI ct])
abbrev dbt (cn : Int) : hc_E := .inr (0, [xR 33, xR 34, xR 35, xI cn])
abbrev dbt2 (cn : Int) : hc_E := .inr (0, [xR 47, xR 48, xR 49, xI cn])
set_option maxRecDepth 100000 in
theorem c_stLike_k {d : Nat} {h : hc_H} {Q : List hc_V → hc_H → Prop} {fs0 ct0 fs1 ct1 : Int} {rs0 rs1 : Nat → Int} (HD : h.2.2 44 = stp2 fs0 ct0) (HS : h.2.2 30 = stp fs1 ct1) (HDr : h.2.2 45 = ar 330 rs0) (HSr : h.2.2 31 = ar 330 rs1) (k : ∀ h2, h2.2.2 44 = stp2 fs1 ct1 → h2.2.2 45 = ar 330 (cc 330 rs1 rs0) → Fr [44, 45] h h2 → Q [] h2) : hc_wp (d + 1) mX4_becomeLike 0 [xR 44, xR 30] [] h Q := by
  refine wp_go rfl rfl ?_
  refine wp_go rfl rfl ?_
  refine e_get rfl HS rfl rfl ?_
  refine e_put (fs' := [xR 45, xI fs1, xI ct0]) rfl HD rfl rfl ?_
  refine wp_go rfl rfl ?_
  refine wp_go rfl rfl ?_
  refine e_get rfl HS rfl rfl ?_
  refine e_put (fs' := [xR 45, xI fs1, xI ct1]) rfl rfl rfl rfl ?_
  refine wp_go rfl rfl ?_
  refine e_get rfl HS rfl rfl ?_
  refine wp_go rfl rfl ?_
  refine wp_go rfl rfl ?_
  refine e_get rfl rfl rfl rfl ?_
  refine wp_go rfl rfl ?_
  refine wp_go rfl rfl ?_
  refine e_copy rfl rfl HSr HDr (by omega) ?_
  refine wp_ret rfl rfl ?_
  rw [cpy_c]
  exact k _ rfl rfl (((Fr.rf.wr rfl).wr rfl).wr rfl)
set_option maxRecDepth 100000 in
theorem c_dbLike_k {d : Nat} {h : hc_H} {Q : List hc_V → hc_H → Prop} {cn0 cn1 : Int} {dt0 ow0 am0 dt1 ow1 am1 : Nat → Int} (HD : h.2.2 46 = dbt2 cn0) (HS : h.2.2 32 = dbt cn1) (HDdt : h.2.2 47 = ar 20 dt0) (HSdt : h.2.2 33 = ar 20 dt1) (HDow : h.2.2 48 = ar 20 ow0) (HSow : h.2.2 34 = ar 20 ow1) (HDam : h.2.2 49 = ar 20 am0) (HSam : h.2.2 35 = ar 20 am1) (k : ∀ h2, h2.2.2 46 = dbt2 cn1 → h2.2.2 47 = ar 20 (cc 20 dt1 dt0) → h2.2.2 48 = ar 20 (cc 20 ow1 ow0) → h2.2.2 49 = ar 20 (cc 20 am1 am0) → Fr [46, 47, 48, 49] h h2 → Q [] h2) : hc_wp (d + 1) mX0_becomeLike 0 [xR 46, xR 32] [] h Q := by
  refine wp_go rfl rfl ?_
  refine wp_go rfl rfl ?_
  refine e_get rfl HS rfl rfl ?_
  refine e_put (fs' := [xR 47, xR 48, xR 49, xI cn1]) rfl HD rfl rfl ?_
  refine wp_go rfl rfl ?_
  refine e_get rfl HS rfl rfl ?_
  refine wp_go rfl rfl ?_
  refine wp_go rfl rfl ?_
  refine e_get rfl rfl rfl rfl ?_
  refine wp_go rfl rfl ?_
  refine wp_go rfl rfl ?_
  refine e_copy rfl rfl HSdt HDdt (by omega) ?_
  refine wp_go rfl rfl ?_
  refine e_get rfl HS rfl rfl ?_
  refine wp_go rfl rfl ?_
  refine wp_go rfl rfl ?_
  refine e_get rfl rfl rfl rfl ?_
  refine wp_go rfl rfl ?_
  refine wp_go rfl rfl ?_
  refine e_copy rfl rfl HSow HDow (by omega) ?_
  refine wp_go rfl rfl ?_
  refine e_get rfl HS rfl rfl ?_
  refine wp_go rfl rfl ?_
  refine wp_go rfl rfl ?_
  refine e_get rfl rfl rfl rfl ?_
  refine wp_go rfl rfl ?_
  refine wp_go rfl rfl ?_
  refine e_copy rfl rfl HSam HDam (by omega) ?_
  refine wp_ret rfl rfl ?_
  rw [cpy_c, cpy_c, cpy_c]
  exact k _ rfl rfl rfl rfl ((((Fr.rf.wr rfl).wr rfl).wr rfl).wr rfl)
set_option maxRecDepth 100000 in
theorem l_bl_k {d : Nat} {h0 : hc_H} {Q : List hc_V → hc_H → Prop} {fk0 dy0 rn0 x0 wt0 tc0 ru0 sc0 fk1 dy1 rn1 x1 wt1 tc1 ru1 sc1 : Int} {tx0 tx1 : Nat → Option Nat} (k : ∀ h2 i2, h2.2.2 37 = tw2 fk0 dy0 rn0 x0 wt0 tc0 ru0 sc0 → h2.2.2 23 = tw fk1 dy1 rn1 x1 wt1 tc1 ru1 sc1 → h2.2.2 43 = .inl (3, 4, .inr (cc 4 tx1 tx0)) → h2.2.2 29 = .inl (3, 4, .inr tx1) → Fr [43] h0 h2 → hc_wp d mX7_becomeLike 134 [xR 37, xR 23, xI i2] [] h2 Q) : ∀ (n j : Nat) (i : Int) (h : hc_H), i = (j : Int) → j ≤ 4 → 4 < j + n → h.2.2 37 = tw2 fk0 dy0 rn0 x0 wt0 tc0 ru0 sc0 → h.2.2 23 = tw fk1 dy1 rn1 x1 wt1 tc1 ru1 sc1 → h.2.2 43 = .inl (3, 4, .inr (cc j tx1 tx0)) → h.2.2 29 = .inl (3, 4, .inr tx1) → (∀ p, p < 4 → TT h (tx1 p)) → Fr [43] h0 h → True → hc_wp d mX7_becomeLike 111 [xR 37, xR 23, xI i] [] h Q := by
  intro n
  induction n with
  | zero =>
    intro j i h e hj hn
    exact absurd hn (by omega)
  | succ n ih =>
    intro j i h e hj hn HD HS HDx HSx HT HF hn2
    refine wp_go rfl rfl ?_
    refine wp_go rfl rfl ?_
    refine e_cge rfl (fun c113 => ?_) (fun c113 => ?_)
    · skip
      rw [show j = 4 by omega] at HDx
      exact k h i HD HS HDx HSx HF
    · skip
      have hTj := (HT (Int.toNat i) (by omega)).isT
      refine wp_go rfl rfl ?_
      refine e_get rfl HD rfl rfl ?_
      refine wp_go rfl rfl ?_
      refine wp_go rfl rfl ?_
      refine e_get rfl HS rfl rfl ?_
      refine wp_go rfl rfl ?_
      refine e_aald rfl HSx (by omega) ?_
      refine e_aast (q := (tx1 (Int.toNat i))) rfl HDx hTj (by omega) ?_
      refine e_inc (L' := [xR 37, xR 23, xI (i + 1)]) rfl rfl (by omega) rfl ?_
      refine wp_go rfl rfl ?_
      have hi : Int.toNat i = j := by omega
      rw [hi, cc_u]
      refine ih (j + 1) _ _ (by omega) (by omega) (by omega) HD HS rfl HSx (fun p hp => (HT p hp).kept (fun a ha => hw_ne (by omega) rfl)) (HF.wr rfl) trivial
set_option maxRecDepth 100000 in
theorem c_stLike_b {d : Nat} {h : hc_H} {Q : List hc_V → hc_H → Prop} {fs0 ct0 fs1 ct1 : Int} {rs0 rs1 : Nat → Int} (HD : h.2.2 30 = stp fs0 ct0) (HS : h.2.2 44 = stp2 fs1 ct1) (HDr : h.2.2 31 = ar 330 rs0) (HSr : h.2.2 45 = ar 330 rs1) (k : ∀ h2, h2.2.2 30 = stp fs1 ct1 → h2.2.2 31 = ar 330 (cc 330 rs1 rs0) → Fr [30, 31] h h2 → Q [] h2) : hc_wp (d + 1) mX4_becomeLike 0 [xR 30, xR 44] [] h Q := by
  refine wp_go rfl rfl ?_
  refine wp_go rfl rfl ?_
  refine e_get rfl HS rfl rfl ?_
  refine e_put (fs' := [xR 31, xI fs1, xI ct0]) rfl HD rfl rfl ?_
  refine wp_go rfl rfl ?_
  refine wp_go rfl rfl ?_
  refine e_get rfl HS rfl rfl ?_
  refine e_put (fs' := [xR 31, xI fs1, xI ct1]) rfl rfl rfl rfl ?_
  refine wp_go rfl rfl ?_
  refine e_get rfl HS rfl rfl ?_
  refine wp_go rfl rfl ?_
  refine wp_go rfl rfl ?_
  refine e_get rfl rfl rfl rfl ?_
  refine wp_go rfl rfl ?_
  refine wp_go rfl rfl ?_
  refine e_copy rfl rfl HSr HDr (by omega) ?_
  refine wp_ret rfl rfl ?_
  rw [cpy_c]
  exact k _ rfl rfl (((Fr.rf.wr rfl).wr rfl).wr rfl)
set_option maxRecDepth 100000 in
theorem c_dbLike_b {d : Nat} {h : hc_H} {Q : List hc_V → hc_H → Prop} {cn0 cn1 : Int} {dt0 ow0 am0 dt1 ow1 am1 : Nat → Int} (HD : h.2.2 32 = dbt cn0) (HS : h.2.2 46 = dbt2 cn1) (HDdt : h.2.2 33 = ar 20 dt0) (HSdt : h.2.2 47 = ar 20 dt1) (HDow : h.2.2 34 = ar 20 ow0) (HSow : h.2.2 48 = ar 20 ow1) (HDam : h.2.2 35 = ar 20 am0) (HSam : h.2.2 49 = ar 20 am1) (k : ∀ h2, h2.2.2 32 = dbt cn1 → h2.2.2 33 = ar 20 (cc 20 dt1 dt0) → h2.2.2 34 = ar 20 (cc 20 ow1 ow0) → h2.2.2 35 = ar 20 (cc 20 am1 am0) → Fr [32, 33, 34, 35] h h2 → Q [] h2) : hc_wp (d + 1) mX0_becomeLike 0 [xR 32, xR 46] [] h Q := by
  refine wp_go rfl rfl ?_
  refine wp_go rfl rfl ?_
  refine e_get rfl HS rfl rfl ?_
  refine e_put (fs' := [xR 33, xR 34, xR 35, xI cn1]) rfl HD rfl rfl ?_
  refine wp_go rfl rfl ?_
  refine e_get rfl HS rfl rfl ?_
  refine wp_go rfl rfl ?_
  refine wp_go rfl rfl ?_
  refine e_get rfl rfl rfl rfl ?_
  refine wp_go rfl rfl ?_
  refine wp_go rfl rfl ?_
  refine e_copy rfl rfl HSdt HDdt (by omega) ?_
  refine wp_go rfl rfl ?_
  refine e_get rfl HS rfl rfl ?_
  refine wp_go rfl rfl ?_
  refine wp_go rfl rfl ?_
  refine e_get rfl rfl rfl rfl ?_
  refine wp_go rfl rfl ?_
  refine wp_go rfl rfl ?_
  refine e_copy rfl rfl HSow HDow (by omega) ?_
  refine wp_go rfl rfl ?_
  refine e_get rfl HS rfl rfl ?_
  refine wp_go rfl rfl ?_
  refine wp_go rfl rfl ?_
  refine e_get rfl rfl rfl rfl ?_
  refine wp_go rfl rfl ?_
  refine wp_go rfl rfl ?_
  refine e_copy rfl rfl HSam HDam (by omega) ?_
  refine wp_ret rfl rfl ?_
  rw [cpy_c, cpy_c, cpy_c]
  exact k _ rfl rfl rfl rfl ((((Fr.rf.wr rfl).wr rfl).wr rfl).wr rfl)
set_option maxRecDepth 100000 in
theorem l_bl_b {d : Nat} {h0 : hc_H} {Q : List hc_V → hc_H → Prop} {fk0 dy0 rn0 x0 wt0 tc0 ru0 sc0 fk1 dy1 rn1 x1 wt1 tc1 ru1 sc1 : Int} {tx0 tx1 : Nat → Option Nat} (k : ∀ h2 i2, h2.2.2 23 = tw fk0 dy0 rn0 x0 wt0 tc0 ru0 sc0 → h2.2.2 37 = tw2 fk1 dy1 rn1 x1 wt1 tc1 ru1 sc1 → h2.2.2 29 = .inl (3, 4, .inr (cc 4 tx1 tx0)) → h2.2.2 43 = .inl (3, 4, .inr tx1) → Fr [29] h0 h2 → hc_wp d mX7_becomeLike 134 [xR 23, xR 37, xI i2] [] h2 Q) : ∀ (n j : Nat) (i : Int) (h : hc_H), i = (j : Int) → j ≤ 4 → 4 < j + n → h.2.2 23 = tw fk0 dy0 rn0 x0 wt0 tc0 ru0 sc0 → h.2.2 37 = tw2 fk1 dy1 rn1 x1 wt1 tc1 ru1 sc1 → h.2.2 29 = .inl (3, 4, .inr (cc j tx1 tx0)) → h.2.2 43 = .inl (3, 4, .inr tx1) → (∀ p, p < 4 → TT h (tx1 p)) → Fr [29] h0 h → True → hc_wp d mX7_becomeLike 111 [xR 23, xR 37, xI i] [] h Q := by
  intro n
  induction n with
  | zero =>
    intro j i h e hj hn
    exact absurd hn (by omega)
  | succ n ih =>
    intro j i h e hj hn HD HS HDx HSx HT HF hn2
    refine wp_go rfl rfl ?_
    refine wp_go rfl rfl ?_
    refine e_cge rfl (fun c113 => ?_) (fun c113 => ?_)
    · skip
      rw [show j = 4 by omega] at HDx
      exact k h i HD HS HDx HSx HF
    · skip
      have hTj := (HT (Int.toNat i) (by omega)).isT
      refine wp_go rfl rfl ?_
      refine e_get rfl HD rfl rfl ?_
      refine wp_go rfl rfl ?_
      refine wp_go rfl rfl ?_
      refine e_get rfl HS rfl rfl ?_
      refine wp_go rfl rfl ?_
      refine e_aald rfl HSx (by omega) ?_
      refine e_aast (q := (tx1 (Int.toNat i))) rfl HDx hTj (by omega) ?_
      refine e_inc (L' := [xR 23, xR 37, xI (i + 1)]) rfl rfl (by omega) rfl ?_
      refine wp_go rfl rfl ?_
      have hi : Int.toNat i = j := by omega
      rw [hi, cc_u]
      refine ih (j + 1) _ _ (by omega) (by omega) (by omega) HD HS rfl HSx (fun p hp => (HT p hp).kept (fun a ha => hw_ne (by omega) rfl)) (HF.wr rfl) trivial
