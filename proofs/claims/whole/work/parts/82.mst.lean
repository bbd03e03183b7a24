/-! both sides' state: what the reference's row holds of the class's town -/
abbrev dX : Type := Nat × (Nat → Int) × (Nat → Int) × (Nat → Int) × (Nat → Int)
def SGR (a r : Nat → Int) : Prop := (0 ≤ a 0 ∧ a 0 ≤ 8) ∧ a 1 = r 8 ∧ a 2 = r 9 ∧ a 3 = r 10 ∧ ∀ p : Nat, p < 8 → ((p : Int) < a 0 → a (4 + p) = r p) ∧ (a 0 ≤ (p : Int) → r p = 0)
def RA (A : Nat → Int) (s : cT) (e : dX) : Prop := (A 0 = (s.nf : Int) ∧ A 1 = s.dy ∧ A 2 = s.rn ∧ A 3 = s.x ∧ A 4 = s.wt ∧ A 5 = s.tc ∧ A 6 = s.ru ∧ A 7 = s.ct ∧ A 8 = (e.1 : Int) ∧ A 9 = s.sc) ∧ (∀ p, p < 8 → A (12 + 2 * p) = s.mk p ∧ A (12 + 2 * p + 1) = s.sl p) ∧ (∀ k, k < 20 → A (28 + 3 * k) = e.2.1 k ∧ A (28 + 3 * k + 1) = e.2.2.1 k ∧ A (28 + 3 * k + 2) = e.2.2.2.1 k) ∧ (∀ k, k < 8 → A (88 + k) = e.2.2.2.2 k) ∧ ∀ i : Nat, (i : Int) < s.ct → SGR (fun q => A (96 + 12 * i + q)) (sgt s.fs s.rs i)
/-- a change at the marks alone -/
theorem RA.mk {A A2 : Nat → Int} {s : cT} {e : dX} {mk : Nat → Int} (H : RA A s e) (h1 : ∀ a, a < 12 → A2 a = A a) (h2 : ∀ p, p < 8 → A2 (12 + 2 * p) = mk p ∧ A2 (12 + 2 * p + 1) = A (12 + 2 * p + 1)) (h3 : ∀ a, 28 ≤ a → A2 a = A a) : RA A2 (s.1, s.2.1, s.2.2.1, s.2.2.2.1, s.2.2.2.2.1, s.2.2.2.2.2.1, s.2.2.2.2.2.2.1, s.2.2.2.2.2.2.2.1, mk, s.2.2.2.2.2.2.2.2.2) e := by
  obtain ⟨a, b, c, g, f⟩ := H
  refine ⟨?_, fun p hp => ⟨(h2 p hp).1, (h2 p hp).2.trans (b p hp).2⟩, fun k hk => ?_, fun k hk => ?_, fun i hi => ?_⟩
  · rw [h1 0 (by omega), h1 1 (by omega), h1 2 (by omega), h1 3 (by omega), h1 4 (by omega), h1 5 (by omega), h1 6 (by omega), h1 7 (by omega), h1 8 (by omega), h1 9 (by omega)]
    exact a
  · rw [h3 _ (by omega), h3 _ (by omega), h3 _ (by omega)]
    exact c k hk
  · rw [h3 _ (by omega)]
    exact g k hk
  · have e9 : (fun q => A2 (96 + 12 * i + q)) = fun q => A (96 + 12 * i + q) := funext (fun q => h3 _ (by omega))
    rw [e9]
    exact f i hi
def shA (A : Nat → Int) (j : Nat) : Nat → Int := fun a => if 96 ≤ a ∧ a < 96 + j then A (a + 12) else A a
def rwA (A : Nat → Int) (x j : Nat) : Nat → Int := fun a => if a = x then A 0 else if a = x + 1 then A 1 else if a = x + 2 then A 3 else if a = x + 3 then A 4 else if x + 4 ≤ a ∧ a < x + 4 + j then A (12 + 2 * (a - (x + 4))) else A a
theorem shA_s {A : Nat → Int} {j : Nat} : hc_u (shA A j) (96 + j) (shA A j (108 + j)) = shA A (j + 1) := by
  funext a
  unfold hc_u shA
  by_cases c : a = 96 + j
  · rw [if_pos c, if_neg (by omega), if_pos (by omega), c]
    congr 1
    omega
  · rw [if_neg c]
    by_cases c2 : 96 ≤ a ∧ a < 96 + j
    · rw [if_pos c2, if_pos (by omega)]
    · rw [if_neg c2, if_neg (by omega)]
theorem rwA_s {A : Nat → Int} {x j : Nat} (hx : 96 ≤ x) (hj : j < 8) : hc_u (rwA A x j) (x + 4 + j) (rwA A x j (12 + 2 * j)) = rwA A x (j + 1) := by
  have e1 : rwA A x j (12 + 2 * j) = A (12 + 2 * j) := by
    unfold rwA
    rw [if_neg (by omega), if_neg (by omega), if_neg (by omega), if_neg (by omega), if_neg (by omega)]
  rw [e1]
  funext a
  unfold hc_u
  by_cases c : a = x + 4 + j
  · rw [if_pos c]
    unfold rwA
    rw [if_neg (by omega), if_neg (by omega), if_neg (by omega), if_neg (by omega), if_pos (by omega), c]
    congr 2
    omega
  · rw [if_neg c]
    unfold rwA
    repeat' split
    all_goals first | rfl | omega
theorem rwA_0 {A : Nat → Int} {x : Nat} (hx : 96 ≤ x) : hc_u (hc_u (hc_u (hc_u A x (A 0)) (x + 1) (A 1)) (x + 2) (A 3)) (x + 3) (A 4) = rwA A x 0 := by
  funext a
  unfold hc_u rwA
  repeat' split
  all_goals first | rfl | omega
set_option maxRecDepth 100000 in
theorem c_marksOf {d : Nat} {h : hc_H} {Q : List hc_V → hc_H → Prop} {p : Nat} {s A : Nat → Int} (H71 : h.2.2 71 = mo s) (H72 : h.2.2 72 = ar 456 A) (hp : p < 8) (k : Q [xI (A (12 + 2 * p))] h) : hc_wp d mX10_marksOf 0 [xR 71, xI (p : Int)] [] h Q := by
  refine wp_go rfl rfl ?_
  refine e_get rfl H71 rfl rfl ?_
  refine wp_go rfl rfl ?_
  refine wp_go rfl rfl ?_
  refine wp_go rfl rfl ?_
  refine e_imul rfl (by omega) ?_
  refine e_iadd rfl (by omega) ?_
  refine e_aldE (p := (12 + (2 * p))) rfl H72 rfl ⟨by omega, by omega⟩ ?_
  refine wp_ret rfl rfl ?_
  exact k
set_option maxRecDepth 100000 in
theorem c_misF {d : Nat} {h : hc_H} {Q : List hc_V → hc_H → Prop} {nf : Nat} {p : Int} {s A : Nat → Int} (H71 : h.2.2 71 = mo s) (H72 : h.2.2 72 = ar 456 A) (h0 : A 0 = (nf : Int)) (hn : nf ≤ 8) (kt : 0 ≤ p ∧ p < (nf : Int) → Q [xI 1] h) (kf : ¬ (0 ≤ p ∧ p < (nf : Int)) → Q [xI 0] h) : hc_wp (d + 1) mX10_isFolk 0 [xR 71, xI p] [] h Q := by
  refine wp_go rfl rfl ?_
  refine wp_go rfl rfl ?_
  refine wp_go rfl rfl ?_
  refine e_get rfl H71 rfl rfl ?_
  refine wp_go rfl rfl ?_
  refine e_aldE (p := 0) rfl H72 rfl ⟨by omega, by omega⟩ ?_
  rw [h0]
  refine wp_go rfl rfl ?_
  refine e_isub rfl (by omega) ?_
  refine wp_call rfl rfl rfl rfl ?_
  refine c_isIn  (fun q10 => ?_) (fun q10 => ?_)
  · skip
    refine wp_ret rfl rfl ?_
    exact kt (by omega)
  · skip
    refine wp_ret rfl rfl ?_
    exact kf (by omega)
set_option maxRecDepth 100000 in
theorem l_boxed {d : Nat} {h : hc_H} {Q : List hc_V → hc_H → Prop} {nf : Nat} {s A mk : Nat → Int} (H71 : h.2.2 71 = mo s) (H72 : h.2.2 72 = ar 456 A) (h0 : A 0 = (nf : Int)) (hn : nf ≤ 8) (hm : ∀ p, p < 8 → A (12 + 2 * p) = mk p) (hb : ∀ j, j < 8 → 0 ≤ mk j ∧ mk j ≤ 720720) (k : Q [xI (720720 - smk mk nf)] h) : ∀ (n j : Nat) (b : Int), (j ≤ nf ∧ nf < j + n) → b = 720720 - smk mk j → hc_wp (d + 1) mX10_boxed 5 [xR 71, xI b, xI (j : Int)] [] h Q := by
  intro n
  induction n with
  | zero =>
    intro j b hj
    exact absurd hj (by omega)
  | succ n ih =>
    intro j b hj hbv
    refine wp_go rfl rfl ?_
    refine wp_go rfl rfl ?_
    refine e_get rfl H71 rfl rfl ?_
    refine wp_go rfl rfl ?_
    refine e_aldE (p := 0) rfl H72 rfl ⟨by omega, by omega⟩ ?_
    rw [h0]
    refine e_cge rfl (fun c12 => ?_) (fun c12 => ?_)
    · skip
      refine wp_go rfl rfl ?_
      refine wp_ret rfl rfl ?_
      rw [hbv, show j = nf by omega]
      exact k
    · skip
      have hj := hb j (by omega)
      have hs := smk_bd (mk := mk) j (fun q hq => hb q (by omega))
      refine wp_go rfl rfl ?_
      refine wp_go rfl rfl ?_
      refine wp_go rfl rfl ?_
      refine wp_cv rfl rfl rfl H71 rfl rfl rfl ?_
      refine c_marksOf (p := j) H71 H72 (by omega) ?_
      rw [hm j (by omega)]
      refine e_isub rfl (by omega) ?_
      refine e_istn (L' := [xR 71, xI (b - (mk j)), xI (j : Int)]) rfl rfl rfl ?_
      refine e_inc (L' := [xR 71, xI (b - (mk j)), xI ((j : Int) + 1)]) rfl rfl (by omega) rfl ?_
      refine wp_go rfl rfl ?_
      exact ih (j + 1) _ (by omega) (by rw [smk]; omega)
set_option maxRecDepth 100000 in
theorem c_boxed {d : Nat} {h : hc_H} {Q : List hc_V → hc_H → Prop} {nf : Nat} {s A mk : Nat → Int} (H71 : h.2.2 71 = mo s) (H72 : h.2.2 72 = ar 456 A) (h0 : A 0 = (nf : Int)) (hn : nf ≤ 8) (hm : ∀ p, p < 8 → A (12 + 2 * p) = mk p) (hb : ∀ j, j < 8 → 0 ≤ mk j ∧ mk j ≤ 720720) (k : Q [xI (720720 - smk mk nf)] h) : hc_wp (d + 1) mX10_boxed 0 [xR 71, none, none] [] h Q := by
  refine e_ldc 720720 rfl rfl ?_
  refine e_istn (L' := [xR 71, xI 720720, none]) rfl rfl rfl ?_
  refine wp_go rfl rfl ?_
  refine e_istn (L' := [xR 71, xI 720720, xI 0]) rfl rfl rfl ?_
  exact l_boxed H71 H72 h0 hn hm hb k (nf + 1) 0 720720 (by omega) (by rw [smk]; omega)
set_option maxRecDepth 100000 in
theorem l_keep1 {d : Nat} {h0 : hc_H} {Q : List hc_V → hc_H → Prop} {s A : Nat → Int} (k : ∀ h2 i2 l2, h2.2.2 71 = mo s → h2.2.2 72 = ar 456 (shA A 348) → Fr [72] h0 h2 → hc_wp (d + 1) mX10_keep 45 [xR 71, i2, l2] [] h2 Q) : ∀ (n j : Nat) (l2 : hc_V) (h : hc_H), (j ≤ 348 ∧ 348 < j + n) → h.2.2 71 = mo s → h.2.2 72 = ar 456 (shA A j) → Fr [72] h0 h → hc_wp (d + 1) mX10_keep 14 [xR 71, xI (j : Int), l2] [] h Q := by
  intro n
  induction n with
  | zero =>
    intro j l2 h hj
    exact absurd hj (by omega)
  | succ n ih =>
    intro j l2 h hj H71 H72 HF
    refine wp_go rfl rfl ?_
    refine wp_go rfl rfl ?_
    refine e_cge rfl (fun c18 => ?_) (fun c18 => ?_)
    · skip
      rw [show j = 348 by omega] at H72
      exact k h _ _ H71 H72 HF
    · skip
      refine wp_go rfl rfl ?_
      refine e_get rfl H71 rfl rfl ?_
      refine wp_go rfl rfl ?_
      refine wp_go rfl rfl ?_
      refine e_iadd rfl (by omega) ?_
      refine wp_go rfl rfl ?_
      refine e_get rfl H71 rfl rfl ?_
      refine wp_go rfl rfl ?_
      refine wp_go rfl rfl ?_
      refine e_iadd rfl (by omega) ?_
      refine e_aldE (p := 108 + j) rfl H72 rfl ⟨by omega, by omega⟩ ?_
      refine e_iastE (p := 96 + j) rfl H72 ⟨by omega, by omega⟩ ?_
      refine e_inc (L' := [xR 71, xI ((j : Int) + 1), l2]) rfl rfl (by omega) rfl ?_
      refine wp_go rfl rfl ?_
      rw [shA_s]
      exact ih (j + 1) _ _ (by omega) H71 rfl (HF.wr rfl)
set_option maxRecDepth 100000 in
theorem l_keep2 {d : Nat} {h0 : hc_H} {Q : List hc_V → hc_H → Prop} {x : Nat} {s A : Nat → Int} (hx : 96 ≤ x) (hx2 : x + 12 ≤ 456) (k : ∀ h2 j2, h2.2.2 71 = mo s → h2.2.2 72 = ar 456 (rwA A x 8) → Fr [72] h0 h2 → hc_wp (d + 1) mX10_keep 153 [xR 71, xI (x : Int), j2] [] h2 Q) : ∀ (n j : Nat) (h : hc_H), (j ≤ 8 ∧ 8 < j + n) → h.2.2 71 = mo s → h.2.2 72 = ar 456 (rwA A x j) → Fr [72] h0 h → hc_wp (d + 1) mX10_keep 126 [xR 71, xI (x : Int), xI (j : Int)] [] h Q := by
  intro n
  induction n with
  | zero =>
    intro j h hj
    exact absurd hj (by omega)
  | succ n ih =>
    intro j h hj H71 H72 HF
    refine wp_go rfl rfl ?_
    refine wp_go rfl rfl ?_
    refine e_cge rfl (fun c129 => ?_) (fun c129 => ?_)
    · skip
      rw [show j = 8 by omega] at H72
      exact k h _ H71 H72 HF
    · skip
      refine wp_go rfl rfl ?_
      refine e_get rfl H71 rfl rfl ?_
      refine wp_go rfl rfl ?_
      refine wp_go rfl rfl ?_
      refine e_iadd rfl (by omega) ?_
      refine wp_go rfl rfl ?_
      refine e_iadd rfl (by omega) ?_
      refine wp_go rfl rfl ?_
      refine wp_go rfl rfl ?_
      refine wp_cv rfl rfl rfl H71 rfl rfl rfl ?_
      refine c_marksOf (p := j) H71 H72 (by omega) ?_
      refine e_iastE (p := x + 4 + j) rfl H72 ⟨by omega, by omega⟩ ?_
      refine e_inc (L' := [xR 71, xI (x : Int), xI ((j : Int) + 1)]) rfl rfl (by omega) rfl ?_
      refine wp_go rfl rfl ?_
      rw [rwA_s hx (by omega)]
      exact ih (j + 1) _ (by omega) H71 rfl (HF.wr rfl)
theorem SGR.eq {a r a2 r2 : Nat → Int} (H : SGR a r) (ha : ∀ q, q < 12 → a2 q = a q) (hr : ∀ p, p < 11 → r2 p = r p) : SGR a2 r2 := by
  obtain ⟨h1, h2, h3, h4, h5⟩ := H
  unfold SGR
  rw [ha 0 (by omega), ha 1 (by omega), ha 2 (by omega), ha 3 (by omega), hr 8 (by omega), hr 9 (by omega), hr 10 (by omega)]
  refine ⟨h1, h2, h3, h4, fun p hp => ?_⟩
  rw [ha (4 + p) (by omega), hr p (by omega)]
  exact h5 p hp
theorem SGR_new {s : cT} (hs : cOK s) {a : Nat → Int} (h0 : a 0 = (s.nf : Int)) (h1 : a 1 = s.dy) (h2 : a 2 = s.x) (h3 : a 3 = s.wt) (h4 : ∀ p, p < 8 → a (4 + p) = s.mk p) : SGR a (nrow s.mk s.dy s.x s.wt) := by
  refine ⟨by rw [h0]; have := hs.1; omega, h1, h2, h3, fun p hp => ⟨fun _ => ?_, fun z => ?_⟩⟩
  · rw [h4 p hp]
    exact (if_pos hp).symm
  · rw [show nrow s.mk s.dy s.x s.wt p = s.mk p from if_pos hp]
    exact hs.2.1.2.1 p (by omega) hp
theorem rwA_lo {A : Nat → Int} {x a : Nat} (h : a < x) : rwA A x 8 a = A a := by
  unfold rwA
  rw [if_neg (by omega), if_neg (by omega), if_neg (by omega), if_neg (by omega), if_neg (by omega)]
theorem rwA_at {A : Nat → Int} {x : Nat} : rwA A x 8 (x + 0) = A 0 ∧ rwA A x 8 (x + 1) = A 1 ∧ rwA A x 8 (x + 2) = A 3 ∧ rwA A x 8 (x + 3) = A 4 ∧ ∀ p, p < 8 → rwA A x 8 (x + (4 + p)) = A (12 + 2 * p) := by
  unfold rwA
  refine ⟨if_pos rfl, ?_, ?_, ?_, fun p hp => ?_⟩
  · rw [if_neg (by omega), if_pos rfl]
  · rw [if_neg (by omega), if_neg (by omega), if_pos rfl]
  · rw [if_neg (by omega), if_neg (by omega), if_neg (by omega), if_pos rfl]
  · rw [if_neg (by omega), if_neg (by omega), if_neg (by omega), if_neg (by omega), if_pos (by omega)]
    congr 2
    omega
theorem RA_keep1 {A : Nat → Int} {s : cT} {e : dX} {m : Nat} (hs : cOK s) (H : RA A s e) (hm : s.ct = (m : Int)) (h30 : m < 30) : RA (hc_u (rwA A (96 + 12 * m) 8) 7 ((m : Int) + 1)) (kepS s s.mk) e := by
  obtain ⟨a, b, c, g, f⟩ := H
  have lo : ∀ q, q ≠ 7 → q < 96 → hc_u (rwA A (96 + 12 * m) 8) 7 ((m : Int) + 1) q = A q := fun q h1 h2 => (hu_n h1).trans (rwA_lo (by omega))
  have hct : kct s.ct = (m : Int) + 1 := by unfold kct; rw [if_pos (by omega), hm]
  refine ⟨?_, fun p hp => ?_, fun k hk => ?_, fun k hk => ?_, fun i hi => ?_⟩
  · rw [lo 0 (by decide) (by decide), lo 1 (by decide) (by decide), lo 2 (by decide) (by decide), lo 3 (by decide) (by decide), lo 4 (by decide) (by decide), lo 5 (by decide) (by decide), lo 6 (by decide) (by decide), lo 8 (by decide) (by decide), lo 9 (by decide) (by decide), hu_s]
    exact ⟨a.1, a.2.1, a.2.2.1, a.2.2.2.1, a.2.2.2.2.1, a.2.2.2.2.2.1, a.2.2.2.2.2.2.1, hct.symm, a.2.2.2.2.2.2.2.2⟩
  · rw [lo _ (by omega) (by omega), lo _ (by omega) (by omega)]
    exact b p hp
  · rw [lo _ (by omega) (by omega), lo _ (by omega) (by omega), lo _ (by omega) (by omega)]
    exact c k hk
  · rw [lo _ (by omega) (by omega)]
    exact g k hk
  · have hi2 : (i : Int) < (m : Int) + 1 := by rw [← hct]; exact hi
    by_cases c1 : i = m
    · subst c1
      have R := rwA_at (A := A) (x := 96 + 12 * i)
      have ne : ∀ q, hc_u (rwA A (96 + 12 * i) 8) 7 ((i : Int) + 1) (96 + 12 * i + q) = rwA A (96 + 12 * i) 8 (96 + 12 * i + q) := fun q => hu_n (by omega)
      refine (SGR_new hs (a := fun q => hc_u (rwA A (96 + 12 * i) 8) 7 ((i : Int) + 1) (96 + 12 * i + q)) ?_ ?_ ?_ ?_ (fun p hp => ?_)).eq (fun q _ => rfl) (fun p hp => ?_)
      · rw [ne, R.1]; exact a.1
      · rw [ne, R.2.1]; exact a.2.1
      · rw [ne, R.2.2.1]; exact a.2.2.2.1
      · rw [ne, R.2.2.2.1]; exact a.2.2.2.2.1
      · rw [ne, R.2.2.2.2 p hp]; exact (b p hp).1
      · have := sgt_new (mk := s.mk) (rs := s.rs) (dy := s.dy) (x := s.x) (wt := s.wt) hs.2.2.2.2.2.2.2 hp
        rw [show Int.toNat (kct s.ct) - 1 = i by rw [hct]; omega] at this
        exact this
    · refine (f i (by omega)).eq (fun q hq => (hu_n (by omega)).trans (rwA_lo (by omega))) (fun p hp => ?_)
      have := sgt_old (mk := s.mk) (rs := s.rs) (dy := s.dy) (x := s.x) (wt := s.wt) (i := i) hs.2.2.2.2.2.2.2 (by rw [hct]; omega) hp
      rw [if_pos (show s.ct < 30 by omega)] at this
      exact this
theorem RA_keep2 {A : Nat → Int} {s : cT} {e : dX} (hs : cOK s) (H : RA A s e) (hm : s.ct = 30) : RA (hc_u (rwA (hc_u (shA A 348) 7 29) 444 8) 7 30) (kepS s s.mk) e := by
  obtain ⟨a, b, c, g, f⟩ := H
  have lo : ∀ q, q ≠ 7 → q < 96 → hc_u (rwA (hc_u (shA A 348) 7 29) 444 8) 7 30 q = A q := fun q h1 h2 => (hu_n h1).trans ((rwA_lo (by omega)).trans ((hu_n h1).trans (if_neg (by omega))))
  have lo2 : ∀ q, q ≠ 7 → q < 96 → hc_u (shA A 348) 7 29 q = A q := fun q h1 h2 => (hu_n h1).trans (if_neg (by omega))
  have hct : kct s.ct = 30 := by unfold kct; rw [if_neg (by omega), hm]
  refine ⟨?_, fun p hp => ?_, fun k hk => ?_, fun k hk => ?_, fun i hi => ?_⟩
  · rw [lo 0 (by decide) (by decide), lo 1 (by decide) (by decide), lo 2 (by decide) (by decide), lo 3 (by decide) (by decide), lo 4 (by decide) (by decide), lo 5 (by decide) (by decide), lo 6 (by decide) (by decide), lo 8 (by decide) (by decide), lo 9 (by decide) (by decide), hu_s]
    exact ⟨a.1, a.2.1, a.2.2.1, a.2.2.2.1, a.2.2.2.2.1, a.2.2.2.2.2.1, a.2.2.2.2.2.2.1, hct.symm, a.2.2.2.2.2.2.2.2⟩
  · rw [lo _ (by omega) (by omega), lo _ (by omega) (by omega)]
    exact b p hp
  · rw [lo _ (by omega) (by omega), lo _ (by omega) (by omega), lo _ (by omega) (by omega)]
    exact c k hk
  · rw [lo _ (by omega) (by omega)]
    exact g k hk
  · have hi2 : (i : Int) < 30 := by rw [← hct]; exact hi
    by_cases c1 : i = 29
    · subst c1
      have R := rwA_at (A := hc_u (shA A 348) 7 29) (x := 444)
      refine (SGR_new hs (a := fun q => hc_u (rwA (hc_u (shA A 348) 7 29) 444 8) 7 30 (444 + q)) ?_ ?_ ?_ ?_ (fun p hp => ?_)).eq (fun q _ => rfl) (fun p hp => ?_)
      · rw [hu_n (by omega), R.1, lo2 _ (by decide) (by decide)]; exact a.1
      · rw [hu_n (by omega), R.2.1, lo2 _ (by decide) (by decide)]; exact a.2.1
      · rw [hu_n (by omega), R.2.2.1, lo2 _ (by decide) (by decide)]; exact a.2.2.2.1
      · rw [hu_n (by omega), R.2.2.2.1, lo2 _ (by decide) (by decide)]; exact a.2.2.2.2.1
      · rw [hu_n (by omega), R.2.2.2.2 p hp, lo2 _ (by omega) (by omega)]; exact (b p hp).1
      · have := sgt_new (mk := s.mk) (rs := s.rs) (dy := s.dy) (x := s.x) (wt := s.wt) hs.2.2.2.2.2.2.2 hp
        rw [show Int.toNat (kct s.ct) - 1 = 29 by rw [hct]; rfl] at this
        exact this
    · refine (f (i + 1) (by omega)).eq (fun q hq => ?_) (fun p hp => ?_)
      · refine (hu_n (by omega)).trans ((rwA_lo (by omega)).trans ((hu_n (by omega)).trans ?_))
        unfold shA
        rw [if_pos (by omega)]
        congr 1
        omega
      · have := sgt_old (mk := s.mk) (rs := s.rs) (dy := s.dy) (x := s.x) (wt := s.wt) (i := i) hs.2.2.2.2.2.2.2 (by rw [hct]; omega) hp
        rw [if_neg (show ¬ s.ct < 30 by omega)] at this
        exact this
set_option maxRecDepth 100000 in
theorem c_mkeep1 {d : Nat} {h : hc_H} {Q : List hc_V → hc_H → Prop} {m : Nat} {s A : Nat → Int} {cs : cT} {e : dX} (hs : cOK cs) (H : RA A cs e) (H71 : h.2.2 71 = mo s) (H72 : h.2.2 72 = ar 456 A) (k : ∀ h2 A2, h2.2.2 72 = ar 456 A2 → RA A2 (kepS cs cs.mk) e → Fr [72] h h2 → Q [] h2) (h7b : cs.ct = (m : Int)) (h30 : m < 30) : hc_wp (d + 1) mX10_keep 0 [xR 71, none, none] [] h Q := by
  have h7 : A 7 = (m : Int) := H.1.2.2.2.2.2.2.2.1.trans h7b
  refine wp_go rfl rfl ?_
  refine e_get rfl H71 rfl rfl ?_
  refine wp_go rfl rfl ?_
  refine e_aldE (p := 7) rfl H72 rfl ⟨by omega, by omega⟩ ?_
  rw [h7]
  refine wp_go rfl rfl ?_
  refine e_cne rfl (fun c9 => ?_) (fun c9 => absurd c9 (by omega))
  refine wp_go rfl rfl ?_
  refine wp_go rfl rfl ?_
  refine wp_go rfl rfl ?_
  refine e_get rfl H71 rfl rfl ?_
  refine wp_go rfl rfl ?_
  refine e_aldE (p := 7) rfl H72 rfl ⟨by omega, by omega⟩ ?_
  rw [h7]
  refine e_imul rfl (by omega) ?_
  refine e_iadd rfl (by omega) ?_
  rw [show (96 : Int) + (12 * (m : Int)) = ((96 + 12 * m : Nat) : Int) by omega]
  refine e_istn (L' := [xR 71, xI ((96 + 12 * m : Nat) : Int), none]) rfl rfl rfl ?_
  refine wp_go rfl rfl ?_
  refine e_get rfl H71 rfl rfl ?_
  refine wp_go rfl rfl ?_
  refine wp_go rfl rfl ?_
  refine e_get rfl H71 rfl rfl ?_
  refine wp_go rfl rfl ?_
  refine e_aldE (p := 0) rfl H72 rfl ⟨by omega, by omega⟩ ?_
  refine e_iastE (p := 96 + 12 * m) rfl H72 ⟨by omega, by omega⟩ ?_
  refine wp_go rfl rfl ?_
  refine e_get rfl H71 rfl rfl ?_
  refine wp_go rfl rfl ?_
  refine wp_go rfl rfl ?_
  refine e_iadd rfl (by omega) ?_
  refine wp_go rfl rfl ?_
  refine e_get rfl H71 rfl rfl ?_
  refine wp_go rfl rfl ?_
  refine e_aldE (p := 1) rfl rfl rfl ⟨by omega, by omega⟩ ?_
  rw [hu_n (by omega)]
  refine e_iastE (p := 96 + 12 * m + 1) rfl rfl ⟨by omega, by omega⟩ ?_
  refine wp_go rfl rfl ?_
  refine e_get rfl H71 rfl rfl ?_
  refine wp_go rfl rfl ?_
  refine wp_go rfl rfl ?_
  refine e_iadd rfl (by omega) ?_
  refine wp_go rfl rfl ?_
  refine e_get rfl H71 rfl rfl ?_
  refine wp_go rfl rfl ?_
  refine e_aldE (p := 3) rfl rfl rfl ⟨by omega, by omega⟩ ?_
  rw [hu_n (by omega), hu_n (by omega)]
  refine e_iastE (p := 96 + 12 * m + 2) rfl rfl ⟨by omega, by omega⟩ ?_
  refine wp_go rfl rfl ?_
  refine e_get rfl H71 rfl rfl ?_
  refine wp_go rfl rfl ?_
  refine wp_go rfl rfl ?_
  refine e_iadd rfl (by omega) ?_
  refine wp_go rfl rfl ?_
  refine e_get rfl H71 rfl rfl ?_
  refine wp_go rfl rfl ?_
  refine e_aldE (p := 4) rfl rfl rfl ⟨by omega, by omega⟩ ?_
  rw [hu_n (by omega), hu_n (by omega), hu_n (by omega)]
  refine e_iastE (p := 96 + 12 * m + 3) rfl rfl ⟨by omega, by omega⟩ ?_
  refine wp_go rfl rfl ?_
  refine e_istn (L' := [xR 71, xI ((96 + 12 * m : Nat) : Int), xI 0]) rfl rfl rfl ?_
  rw [rwA_0 (by omega)]
  refine l_keep2 (d := d) (A := A) (x := 96 + 12 * m) (by omega) (by omega) (fun h2 j2 A71 A72 F2 => ?_) 9 0 _ (by omega) H71 rfl Fr.rf
  refine wp_go rfl rfl ?_
  refine e_get rfl A71 rfl rfl ?_
  refine wp_go rfl rfl ?_
  refine wp_go rfl rfl ?_
  refine e_aldE (p := 7) rfl A72 rfl ⟨by omega, by omega⟩ ?_
  rw [show rwA A (96 + 12 * m) 8 7 = (m : Int) from (rwA_lo (by omega)).trans h7]
  refine wp_go rfl rfl ?_
  refine e_iadd rfl (by omega) ?_
  refine e_iastE (p := 7) rfl A72 ⟨by omega, by omega⟩ ?_
  refine wp_ret rfl rfl ?_
  exact k _ _ rfl (RA_keep1 hs H h7b (by omega)) ((Fr.tr (l2 := [72]) ((((Fr.rf.wr rfl).wr rfl).wr rfl).wr rfl) F2 (fun _ z => z)).wr rfl)
set_option maxRecDepth 100000 in
theorem c_mkeep2 {d : Nat} {h : hc_H} {Q : List hc_V → hc_H → Prop} {s A : Nat → Int} {cs : cT} {e : dX} (hs : cOK cs) (H : RA A cs e) (H71 : h.2.2 71 = mo s) (H72 : h.2.2 72 = ar 456 A) (k : ∀ h2 A2, h2.2.2 72 = ar 456 A2 → RA A2 (kepS cs cs.mk) e → Fr [72] h h2 → Q [] h2) (h7b : cs.ct = 30) : hc_wp (d + 1) mX10_keep 0 [xR 71, none, none] [] h Q := by
  have h7 : A 7 = 30 := H.1.2.2.2.2.2.2.2.1.trans h7b
  refine wp_go rfl rfl ?_
  refine e_get rfl H71 rfl rfl ?_
  refine wp_go rfl rfl ?_
  refine e_aldE (p := 7) rfl H72 rfl ⟨by omega, by omega⟩ ?_
  rw [h7]
  refine wp_go rfl rfl ?_
  refine wp_go rfl rfl ?_
  refine wp_go rfl rfl ?_
  refine e_istn (L' := [xR 71, xI 0, none]) rfl rfl rfl ?_
  refine l_keep1 (d := d) (A := A) (fun h1 i2 l2 A71 A72 F1 => ?_) 349 0 _ h (by omega) H71 (by rw [show shA A 0 = A by funext a; exact if_neg (by omega)]; exact H72) Fr.rf
  refine wp_go rfl rfl ?_
  refine e_get rfl A71 rfl rfl ?_
  refine wp_go rfl rfl ?_
  refine wp_go rfl rfl ?_
  refine e_aldE (p := 7) rfl A72 rfl ⟨by omega, by omega⟩ ?_
  rw [show shA A 348 7 = 30 from (if_neg (by omega)).trans h7]
  refine wp_go rfl rfl ?_
  refine e_isub rfl (by omega) ?_
  rw [show (30 : Int) - 1 = 29 from rfl]
  refine e_iastE (p := 7) rfl A72 ⟨by omega, by omega⟩ ?_
  refine wp_go rfl rfl ?_
  refine wp_go rfl rfl ?_
  refine wp_go rfl rfl ?_
  refine e_get rfl A71 rfl rfl ?_
  refine wp_go rfl rfl ?_
  refine e_aldE (p := 7) rfl rfl rfl ⟨by omega, by omega⟩ ?_
  rw [show hc_u (shA A 348) 7 29 7 = 29 from hu_s]
  refine e_imul rfl (by omega) ?_
  refine e_iadd rfl (by omega) ?_
  rw [show (96 : Int) + (12 * 29) = ((444 : Nat) : Int) by decide]
  refine e_istn (L' := [xR 71, xI ((444 : Nat) : Int), l2]) rfl rfl rfl ?_
  refine wp_go rfl rfl ?_
  refine e_get rfl A71 rfl rfl ?_
  refine wp_go rfl rfl ?_
  refine wp_go rfl rfl ?_
  refine e_get rfl A71 rfl rfl ?_
  refine wp_go rfl rfl ?_
  refine e_aldE (p := 0) rfl rfl rfl ⟨by omega, by omega⟩ ?_
  refine e_iastE (p := 444) rfl rfl ⟨by omega, by omega⟩ ?_
  refine wp_go rfl rfl ?_
  refine e_get rfl A71 rfl rfl ?_
  refine wp_go rfl rfl ?_
  refine wp_go rfl rfl ?_
  refine e_iadd rfl (by omega) ?_
  refine wp_go rfl rfl ?_
  refine e_get rfl A71 rfl rfl ?_
  refine wp_go rfl rfl ?_
  refine e_aldE (p := 1) rfl rfl rfl ⟨by omega, by omega⟩ ?_
  rw [hu_n (by omega)]
  refine e_iastE (p := 444 + 1) rfl rfl ⟨by omega, by omega⟩ ?_
  refine wp_go rfl rfl ?_
  refine e_get rfl A71 rfl rfl ?_
  refine wp_go rfl rfl ?_
  refine wp_go rfl rfl ?_
  refine e_iadd rfl (by omega) ?_
  refine wp_go rfl rfl ?_
  refine e_get rfl A71 rfl rfl ?_
  refine wp_go rfl rfl ?_
  refine e_aldE (p := 3) rfl rfl rfl ⟨by omega, by omega⟩ ?_
  rw [hu_n (by omega), hu_n (by omega)]
  refine e_iastE (p := 444 + 2) rfl rfl ⟨by omega, by omega⟩ ?_
  refine wp_go rfl rfl ?_
  refine e_get rfl A71 rfl rfl ?_
  refine wp_go rfl rfl ?_
  refine wp_go rfl rfl ?_
  refine e_iadd rfl (by omega) ?_
  refine wp_go rfl rfl ?_
  refine e_get rfl A71 rfl rfl ?_
  refine wp_go rfl rfl ?_
  refine e_aldE (p := 4) rfl rfl rfl ⟨by omega, by omega⟩ ?_
  rw [hu_n (by omega), hu_n (by omega), hu_n (by omega)]
  refine e_iastE (p := 444 + 3) rfl rfl ⟨by omega, by omega⟩ ?_
  refine wp_go rfl rfl ?_
  refine e_istn (L' := [xR 71, xI ((444 : Nat) : Int), xI 0]) rfl rfl rfl ?_
  rw [rwA_0 (by omega)]
  refine l_keep2 (d := d) (A := hc_u (shA A 348) 7 29) (x := 444) (by omega) (by omega) (fun h2 j2 B71 B72 F2 => ?_) 9 0 _ (by omega) A71 rfl Fr.rf
  refine wp_go rfl rfl ?_
  refine e_get rfl B71 rfl rfl ?_
  refine wp_go rfl rfl ?_
  refine wp_go rfl rfl ?_
  refine e_aldE (p := 7) rfl B72 rfl ⟨by omega, by omega⟩ ?_
  rw [show rwA (hc_u (shA A 348) 7 29) 444 8 7 = 29 from (rwA_lo (by omega)).trans hu_s]
  refine wp_go rfl rfl ?_
  refine e_iadd rfl (by omega) ?_
  refine e_iastE (p := 7) rfl B72 ⟨by omega, by omega⟩ ?_
  refine wp_ret rfl rfl ?_
  exact k _ _ rfl (RA_keep2 hs H h7b) ((Fr.tr (l2 := [72]) (((((F1.wr rfl).wr rfl).wr rfl).wr rfl).wr rfl) F2 (fun _ z => z)).wr rfl)
theorem c_mkeep {d : Nat} {h : hc_H} {Q : List hc_V → hc_H → Prop} {s A : Nat → Int} {cs : cT} {e : dX} (hs : cOK cs) (H : RA A cs e) (H71 : h.2.2 71 = mo s) (H72 : h.2.2 72 = ar 456 A) (k : ∀ h2 A2, h2.2.2 72 = ar 456 A2 → RA A2 (kepS cs cs.mk) e → Fr [72] h h2 → Q [] h2) : hc_wp (d + 1) mX10_keep 0 [xR 71, none, none] [] h Q := by
  have hf := hs.2.2.2.2.2.2.2
  unfold FT at hf
  by_cases c : cs.ct = 30
  · exact c_mkeep2 hs H H71 H72 k c
  · exact c_mkeep1 (m := cs.ct.toNat) hs H H71 H72 k (by omega) (by omega)
