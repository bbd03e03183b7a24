/-! the class: Tokens, second part: signs, words, one token -/
def sgk (c : Int) (l : Bool) : Int := if c = 60 then (if l = true then 41 else 40) else if c = 62 then (if l = true then 43 else 42) else if c = 61 then 44 else if c = 35 then 45 else if c = 43 then 46 else if c = 45 then 47 else if c = 42 then 48 else if c = 47 then 49 else if c = 40 then 50 else if c = 41 then 51 else if c = 59 then 52 else if c = 63 then 53 else if c = 58 then 54 else 1
def b2i (b : Bool) : Int := if b = true then 1 else 0
set_option maxRecDepth 100000 in
theorem c_signKind {d : Nat} {h : hc_H} {Q : List hc_V → hc_H → Prop} {c : Int} {l : Bool} (k : Q [xI (sgk c l)] h) : hc_wp d mX6_signKind 0 [xI c, xI (b2i l)] [] h Q := by
  refine wp_go rfl rfl ?_
  by_cases z1_0 : c = 35
  · subst z1_0
    refine wp_go rfl rfl ?_
    refine wp_go rfl rfl ?_
    refine wp_ret rfl rfl ?_
    exact k
  by_cases z1_1 : c = 40
  · subst z1_1
    refine wp_go rfl rfl ?_
    refine wp_go rfl rfl ?_
    refine wp_ret rfl rfl ?_
    exact k
  by_cases z1_2 : c = 41
  · subst z1_2
    refine wp_go rfl rfl ?_
    refine wp_go rfl rfl ?_
    refine wp_ret rfl rfl ?_
    exact k
  by_cases z1_3 : c = 42
  · subst z1_3
    refine wp_go rfl rfl ?_
    refine wp_go rfl rfl ?_
    refine wp_ret rfl rfl ?_
    exact k
  by_cases z1_4 : c = 43
  · subst z1_4
    refine wp_go rfl rfl ?_
    refine wp_go rfl rfl ?_
    refine wp_ret rfl rfl ?_
    exact k
  by_cases z1_5 : c = 45
  · subst z1_5
    refine wp_go rfl rfl ?_
    refine wp_go rfl rfl ?_
    refine wp_ret rfl rfl ?_
    exact k
  by_cases z1_6 : c = 47
  · subst z1_6
    refine wp_go rfl rfl ?_
    refine wp_go rfl rfl ?_
    refine wp_ret rfl rfl ?_
    exact k
  by_cases z1_7 : c = 58
  · subst z1_7
    refine wp_go rfl rfl ?_
    refine wp_go rfl rfl ?_
    refine wp_ret rfl rfl ?_
    exact k
  by_cases z1_8 : c = 59
  · subst z1_8
    refine wp_go rfl rfl ?_
    refine wp_go rfl rfl ?_
    refine wp_ret rfl rfl ?_
    exact k
  by_cases z1_9 : c = 60
  · subst z1_9
    refine wp_go rfl rfl ?_
    refine wp_go rfl rfl ?_
    refine e_ifeq rfl (fun c133 => ?_) (fun c133 => ?_)
    · skip
      refine wp_go rfl rfl ?_
      refine wp_ret rfl rfl ?_
      cases l with
      | true => exact absurd c133 (by decide)
      | false => exact k
    · skip
      refine wp_go rfl rfl ?_
      refine wp_go rfl rfl ?_
      refine wp_ret rfl rfl ?_
      cases l with
      | true => exact k
      | false => exact absurd rfl c133
  by_cases z1_10 : c = 61
  · subst z1_10
    refine wp_go rfl rfl ?_
    refine wp_go rfl rfl ?_
    refine wp_ret rfl rfl ?_
    exact k
  by_cases z1_11 : c = 62
  · subst z1_11
    refine wp_go rfl rfl ?_
    refine wp_go rfl rfl ?_
    refine e_ifeq rfl (fun c145 => ?_) (fun c145 => ?_)
    · skip
      refine wp_go rfl rfl ?_
      refine wp_ret rfl rfl ?_
      cases l with
      | true => exact absurd c145 (by decide)
      | false => exact k
    · skip
      refine wp_go rfl rfl ?_
      refine wp_go rfl rfl ?_
      refine wp_ret rfl rfl ?_
      cases l with
      | true => exact k
      | false => exact absurd rfl c145
  by_cases z1_12 : c = 63
  · subst z1_12
    refine wp_go rfl rfl ?_
    refine wp_go rfl rfl ?_
    refine wp_ret rfl rfl ?_
    exact k
  refine e_tswd [35, 40, 41, 42, 43, 45, 47, 58, 59, 60, 61, 62, 63] rfl (by decide) rfl ?_ ?_
  · simp [z1_0, z1_1, z1_2, z1_3, z1_4, z1_5, z1_6, z1_7, z1_8, z1_9, z1_10, z1_11, z1_12]
  refine wp_go rfl rfl ?_
  refine wp_ret rfl rfl ?_
  rw [show sgk c l = 1 by unfold sgk; repeat rw [if_neg (by omega)]] at k
  exact k
set_option maxRecDepth 100000 in
theorem c_takeSign {d : Nat} {h : hc_H} {Q : List hc_V → hc_H → Prop} {ct c : Int} {n p : Nat} {B : Nat → Int} (hn : n ≤ 300) (hp : p ≤ 300) (H51 : h.2.2 51 = tko ct (n : Int) (p : Int)) (H70 : h.2.2 70 = ar 300 B) (k : ∀ kd, kd = sgk c (decide (bt B n (p + 1) = 61)) → ∀ h2, h2.2.2 51 = tko ct (n : Int) ((p : Int) + if kd = 41 ∨ kd = 43 then 2 else 1) → Fr [51] h h2 → Q [xI kd] h2) : hc_wp (d + 1) mX6_takeSign 0 [xR 51, xI c, none] [] h Q := by
  refine wp_go rfl rfl ?_
  refine wp_go rfl rfl ?_
  refine wp_go rfl rfl ?_
  refine e_get rfl H51 rfl rfl ?_
  refine wp_go rfl rfl ?_
  refine e_iadd rfl (by omega) ?_
  refine wp_cv rfl rfl rfl H51 rfl rfl rfl ?_
  rw [show ((p : Int) + 1) = ((p + 1 : Nat) : Int) by omega]
  refine c_byteAt (p := p + 1) H51 H70 hn ?_
  refine wp_go rfl rfl ?_
  refine e_cne rfl (fun c13 => ?_) (fun c13 => ?_)
  · skip
    refine wp_go rfl rfl ?_
    refine wp_call rfl rfl rfl rfl ?_
    have el : decide (bt B n (p + 1) = 61) = false := decide_eq_false c13
    refine c_signKind (c := c) (l := false) ?_
    rw [← el]
    obtain ⟨kd, hkd⟩ : ∃ z : Int, z = sgk c (decide (bt B n (p + 1) = 61)) := ⟨_, rfl⟩
    rw [← hkd]
    refine e_istn (L' := [xR 51, xI c, xI kd]) rfl rfl rfl ?_
    refine wp_go rfl rfl ?_
    refine wp_go rfl rfl ?_
    refine e_get rfl H51 rfl rfl ?_
    refine wp_go rfl rfl ?_
    refine wp_go rfl rfl ?_
    refine e_ceq rfl (fun c33 => ?_) (fun c33 => ?_)
    · skip
      refine wp_go rfl rfl ?_
      refine wp_go rfl rfl ?_
      refine e_iadd rfl (by omega) ?_
      refine e_put (fs' := [xR 52, xR 53, xR 54, xI ct, xR 70, xI (n : Int), xI ((p : Int) + 2)]) rfl H51 rfl rfl ?_
      refine wp_go rfl rfl ?_
      refine wp_ret rfl rfl ?_
      refine k kd hkd _ ?_ (Fr.rf.wr rfl)
      show tko ct (n : Int) ((p : Int) + 2) = _
      rw [if_pos (by omega)]
    · skip
      refine wp_go rfl rfl ?_
      refine wp_go rfl rfl ?_
      refine e_cne rfl (fun c39 => ?_) (fun c39 => ?_)
      · skip
        refine wp_go rfl rfl ?_
        refine e_iadd rfl (by omega) ?_
        refine e_put (fs' := [xR 52, xR 53, xR 54, xI ct, xR 70, xI (n : Int), xI ((p : Int) + 1)]) rfl H51 rfl rfl ?_
        refine wp_go rfl rfl ?_
        refine wp_ret rfl rfl ?_
        refine k kd hkd _ ?_ (Fr.rf.wr rfl)
        show tko ct (n : Int) ((p : Int) + 1) = _
        rw [if_neg (by omega)]
      · skip
        refine wp_go rfl rfl ?_
        refine wp_go rfl rfl ?_
        refine e_iadd rfl (by omega) ?_
        refine e_put (fs' := [xR 52, xR 53, xR 54, xI ct, xR 70, xI (n : Int), xI ((p : Int) + 2)]) rfl H51 rfl rfl ?_
        refine wp_go rfl rfl ?_
        refine wp_ret rfl rfl ?_
        refine k kd hkd _ ?_ (Fr.rf.wr rfl)
        show tko ct (n : Int) ((p : Int) + 2) = _
        rw [if_pos (by omega)]
  · skip
    refine wp_go rfl rfl ?_
    refine wp_go rfl rfl ?_
    refine wp_call rfl rfl rfl rfl ?_
    have el : decide (bt B n (p + 1) = 61) = true := decide_eq_true c13
    refine c_signKind (c := c) (l := true) ?_
    rw [← el]
    obtain ⟨kd, hkd⟩ : ∃ z : Int, z = sgk c (decide (bt B n (p + 1) = 61)) := ⟨_, rfl⟩
    rw [← hkd]
    refine e_istn (L' := [xR 51, xI c, xI kd]) rfl rfl rfl ?_
    refine wp_go rfl rfl ?_
    refine wp_go rfl rfl ?_
    refine e_get rfl H51 rfl rfl ?_
    refine wp_go rfl rfl ?_
    refine wp_go rfl rfl ?_
    refine e_ceq rfl (fun c33 => ?_) (fun c33 => ?_)
    · skip
      refine wp_go rfl rfl ?_
      refine wp_go rfl rfl ?_
      refine e_iadd rfl (by omega) ?_
      refine e_put (fs' := [xR 52, xR 53, xR 54, xI ct, xR 70, xI (n : Int), xI ((p : Int) + 2)]) rfl H51 rfl rfl ?_
      refine wp_go rfl rfl ?_
      refine wp_ret rfl rfl ?_
      refine k kd hkd _ ?_ (Fr.rf.wr rfl)
      show tko ct (n : Int) ((p : Int) + 2) = _
      rw [if_pos (by omega)]
    · skip
      refine wp_go rfl rfl ?_
      refine wp_go rfl rfl ?_
      refine e_cne rfl (fun c39 => ?_) (fun c39 => ?_)
      · skip
        refine wp_go rfl rfl ?_
        refine e_iadd rfl (by omega) ?_
        refine e_put (fs' := [xR 52, xR 53, xR 54, xI ct, xR 70, xI (n : Int), xI ((p : Int) + 1)]) rfl H51 rfl rfl ?_
        refine wp_go rfl rfl ?_
        refine wp_ret rfl rfl ?_
        refine k kd hkd _ ?_ (Fr.rf.wr rfl)
        show tko ct (n : Int) ((p : Int) + 1) = _
        rw [if_neg (by omega)]
      · skip
        refine wp_go rfl rfl ?_
        refine wp_go rfl rfl ?_
        refine e_iadd rfl (by omega) ?_
        refine e_put (fs' := [xR 52, xR 53, xR 54, xI ct, xR 70, xI (n : Int), xI ((p : Int) + 2)]) rfl H51 rfl rfl ?_
        refine wp_go rfl rfl ?_
        refine wp_ret rfl rfl ?_
        refine k kd hkd _ ?_ (Fr.rf.wr rfl)
        show tko ct (n : Int) ((p : Int) + 2) = _
        rw [if_pos (by omega)]
def alm (f B : Nat → Int) (n s : Nat) : Nat → Bool
  | 0 => true
  | i + 1 => alm f B n s i && decide (f i = bt B n (s + i))
def mtc (f B : Nat → Int) (n m s e : Nat) : Bool := decide (m = e - s) && alm f B n s m
theorem alm_f {f B : Nat → Int} {n s i : Nat} : ∀ m, i < m → ¬ f i = bt B n (s + i) → alm f B n s m = false
  | 0, h, _ => absurd h (by omega)
  | m + 1, h, q => by
    rw [alm]
    by_cases c : i = m
    · subst c
      rw [decide_eq_false q, Bool.and_false]
    · rw [alm_f m (by omega) q, Bool.false_and]
set_option maxRecDepth 100000 in
theorem l_std {d : Nat} {h : hc_H} {Q : List hc_V → hc_H → Prop} {ct : Int} {n m r s e : Nat} {f B : Nat → Int} (hn : n ≤ 300) (hm : m ≤ 100) (hs : s ≤ 300) (H51 : h.2.2 51 = tko ct (n : Int) (e : Int)) (H70 : h.2.2 70 = ar 300 B) (HR : h.2.2 r = .inl (8, m, .inl f)) (kt : alm f B n s m = true → Q [xI 1] h) (kf : alm f B n s m = false → Q [xI 0] h) : ∀ (g i : Nat), (i ≤ m ∧ m < i + g) → alm f B n s i = true → hc_wp (d + 4) mX6_stands 17 [xR 51, xR r, xI (s : Int), xI ((i : Nat) : Int)] [] h Q := by
  intro g
  induction g with
  | zero =>
    intro i hg
    exact absurd hg (by omega)
  | succ g ih =>
    intro i hg hi
    refine wp_go rfl rfl ?_
    refine wp_go rfl rfl ?_
    refine e_slen rfl rfl HR ?_
    refine e_cge rfl (fun c22 => ?_) (fun c22 => ?_)
    · skip
      refine wp_go rfl rfl ?_
      refine wp_ret rfl rfl ?_
      rw [show i = m by omega] at hi
      exact kt hi
    · skip
      refine wp_go rfl rfl ?_
      refine wp_go rfl rfl ?_
      refine e_chat rfl rfl HR (by omega) ?_
      refine wp_go rfl rfl ?_
      refine wp_go rfl rfl ?_
      refine wp_go rfl rfl ?_
      refine e_iadd rfl (by omega) ?_
      refine wp_cv rfl rfl rfl H51 rfl rfl rfl ?_
      rw [show ((s : Int) + (i : Int)) = ((s + i : Nat) : Int) by omega]
      refine c_byteAt (d := d + 3) (p := s + i) H51 H70 hn ?_
      refine e_ceq rfl (fun c37 => ?_) (fun c37 => ?_)
      · skip
        refine e_inc (L' := [xR 51, xR r, xI (s : Int), xI ((i : Int) + 1)]) rfl rfl (by omega) rfl ?_
        refine wp_go rfl rfl ?_
        exact ih (i + 1) (by omega) (by rw [alm, hi, decide_eq_true (show f i = bt B n (s + i) from c37)]; rfl)
      · skip
        refine wp_go rfl rfl ?_
        refine wp_ret rfl rfl ?_
        exact kf (alm_f m (by omega) c37)
set_option maxRecDepth 100000 in
theorem c_stands {d : Nat} {h : hc_H} {Q : List hc_V → hc_H → Prop} {ct : Int} {n m r s e : Nat} {f B : Nat → Int} (hn : n ≤ 300) (hm : m ≤ 100) (hse : s ≤ e) (hs : s ≤ 300) (he : e ≤ 300) (H51 : h.2.2 51 = tko ct (n : Int) (e : Int)) (H70 : h.2.2 70 = ar 300 B) (HR : h.2.2 r = .inl (8, m, .inl f)) (kt : mtc f B n m s e = true → Q [xI 1] h) (kf : mtc f B n m s e = false → Q [xI 0] h) : hc_wp (d + 4) mX6_stands 0 [xR 51, xR r, xI (s : Int), none] [] h Q := by
  refine wp_go rfl rfl ?_
  refine e_slen rfl rfl HR ?_
  refine wp_go rfl rfl ?_
  refine e_get rfl H51 rfl rfl ?_
  refine wp_go rfl rfl ?_
  refine e_isub rfl (by omega) ?_
  refine e_ceq rfl (fun c10 => ?_) (fun c10 => ?_)
  · skip
    refine wp_go rfl rfl ?_
    refine e_istn (L' := [xR 51, xR r, xI (s : Int), xI 0]) rfl rfl rfl ?_
    refine l_std hn hm hs H51 H70 HR (fun q => kt ?_) (fun q => kf ?_) (m + 1) 0 (by omega) rfl
    · unfold mtc
      rw [q, decide_eq_true (show m = e - s by omega), Bool.and_self]
    · unfold mtc
      rw [q, Bool.and_false]
  · skip
    refine wp_go rfl rfl ?_
    refine wp_ret rfl rfl ?_
    exact kf (by unfold mtc; rw [decide_eq_false (show ¬ m = e - s by omega), Bool.false_and])
def sbf (w : Nat) : Nat → Int := fun j => (hc_SB.getD (w - 10) []).getD j 0
def sbl (w : Nat) : Nat := (hc_SB.getD (w - 10) []).length
def wdF (B : Nat → Int) (n s e w : Nat) : Bool := mtc (sbf w) B n (sbl w) s e
def wkd (B : Nat → Int) (n s e : Nat) : Nat → Nat → Int
  | 0, _ => 1
  | g + 1, w => if wdF B n s e w = true then (w : Int) else wkd B n s e g (w + 1)
theorem wkd_f {B : Nat → Int} {n s e g w : Nat} (q : wdF B n s e w = false) : wkd B n s e (g + 1) w = wkd B n s e g (w + 1) := by rw [wkd, if_neg (nt q)]
theorem wkd_t {B : Nat → Int} {n s e g w : Nat} (q : wdF B n s e w = true) : wkd B n s e (g + 1) w = (w : Int) := by rw [wkd, if_pos q]
def STR (h : hc_H) : Prop := ∀ i, i < 21 → h.2.2 (i + 1) = .inl (8, (hc_SB.getD i []).length, .inl (fun j => (hc_SB.getD i []).getD j 0))
set_option maxRecDepth 100000 in
theorem c_sp10 {d : Nat} {h : hc_H} {Q : List hc_V → hc_H → Prop}  (k : Q [xR 1] h) : hc_wp (d + 1) mX6_spelling 0 [xI 10] [] h Q := by
  refine wp_go rfl rfl ?_
  refine wp_go rfl rfl ?_
  refine wp_go rfl rfl ?_
  refine wp_ret rfl rfl ?_
  exact k
set_option maxRecDepth 100000 in
theorem c_sp11 {d : Nat} {h : hc_H} {Q : List hc_V → hc_H → Prop}  (k : Q [xR 2] h) : hc_wp (d + 1) mX6_spelling 0 [xI 11] [] h Q := by
  refine wp_go rfl rfl ?_
  refine wp_go rfl rfl ?_
  refine wp_go rfl rfl ?_
  refine wp_ret rfl rfl ?_
  exact k
set_option maxRecDepth 100000 in
theorem c_sp12 {d : Nat} {h : hc_H} {Q : List hc_V → hc_H → Prop}  (k : Q [xR 3] h) : hc_wp (d + 1) mX6_spelling 0 [xI 12] [] h Q := by
  refine wp_go rfl rfl ?_
  refine wp_go rfl rfl ?_
  refine wp_go rfl rfl ?_
  refine wp_ret rfl rfl ?_
  exact k
set_option maxRecDepth 100000 in
theorem c_sp13 {d : Nat} {h : hc_H} {Q : List hc_V → hc_H → Prop}  (k : Q [xR 4] h) : hc_wp (d + 1) mX6_spelling 0 [xI 13] [] h Q := by
  refine wp_go rfl rfl ?_
  refine wp_go rfl rfl ?_
  refine wp_go rfl rfl ?_
  refine wp_ret rfl rfl ?_
  exact k
set_option maxRecDepth 100000 in
theorem c_sp14 {d : Nat} {h : hc_H} {Q : List hc_V → hc_H → Prop}  (k : Q [xR 5] h) : hc_wp (d + 1) mX6_spelling 0 [xI 14] [] h Q := by
  refine wp_go rfl rfl ?_
  refine wp_go rfl rfl ?_
  refine wp_go rfl rfl ?_
  refine wp_ret rfl rfl ?_
  exact k
set_option maxRecDepth 100000 in
theorem c_sp15 {d : Nat} {h : hc_H} {Q : List hc_V → hc_H → Prop}  (k : Q [xR 6] h) : hc_wp (d + 1) mX6_spelling 0 [xI 15] [] h Q := by
  refine wp_go rfl rfl ?_
  refine wp_go rfl rfl ?_
  refine wp_go rfl rfl ?_
  refine wp_ret rfl rfl ?_
  exact k
set_option maxRecDepth 100000 in
theorem c_sp16 {d : Nat} {h : hc_H} {Q : List hc_V → hc_H → Prop}  (k : Q [xR 7] h) : hc_wp (d + 1) mX6_spelling 0 [xI 16] [] h Q := by
  refine wp_go rfl rfl ?_
  refine wp_go rfl rfl ?_
  refine wp_go rfl rfl ?_
  refine wp_ret rfl rfl ?_
  exact k
set_option maxRecDepth 100000 in
theorem c_sp17 {d : Nat} {h : hc_H} {Q : List hc_V → hc_H → Prop}  (k : Q [xR 8] h) : hc_wp (d + 1) mX6_spelling 0 [xI 17] [] h Q := by
  refine wp_go rfl rfl ?_
  refine wp_go rfl rfl ?_
  refine wp_go rfl rfl ?_
  refine wp_ret rfl rfl ?_
  exact k
set_option maxRecDepth 100000 in
theorem c_sp18 {d : Nat} {h : hc_H} {Q : List hc_V → hc_H → Prop}  (k : Q [xR 9] h) : hc_wp (d + 1) mX6_spelling 0 [xI 18] [] h Q := by
  refine wp_go rfl rfl ?_
  refine wp_go rfl rfl ?_
  refine wp_go rfl rfl ?_
  refine wp_ret rfl rfl ?_
  exact k
set_option maxRecDepth 100000 in
theorem c_sp19 {d : Nat} {h : hc_H} {Q : List hc_V → hc_H → Prop}  (k : Q [xR 10] h) : hc_wp (d + 1) mX6_spelling 0 [xI 19] [] h Q := by
  refine wp_go rfl rfl ?_
  refine wp_go rfl rfl ?_
  refine wp_go rfl rfl ?_
  refine wp_ret rfl rfl ?_
  exact k
set_option maxRecDepth 100000 in
theorem c_sp20 {d : Nat} {h : hc_H} {Q : List hc_V → hc_H → Prop}  (k : Q [xR 11] h) : hc_wp (d + 1) mX6_spelling 0 [xI 20] [] h Q := by
  refine wp_go rfl rfl ?_
  refine wp_go rfl rfl ?_
  refine wp_go rfl rfl ?_
  refine wp_ret rfl rfl ?_
  exact k
set_option maxRecDepth 100000 in
theorem c_sp21 {d : Nat} {h : hc_H} {Q : List hc_V → hc_H → Prop}  (k : Q [xR 12] h) : hc_wp (d + 1) mX6_spelling 0 [xI 21] [] h Q := by
  refine wp_go rfl rfl ?_
  refine wp_go rfl rfl ?_
  refine wp_go rfl rfl ?_
  refine wp_ret rfl rfl ?_
  exact k
set_option maxRecDepth 100000 in
theorem c_sp22 {d : Nat} {h : hc_H} {Q : List hc_V → hc_H → Prop}  (k : Q [xR 13] h) : hc_wp (d + 1) mX6_spelling 0 [xI 22] [] h Q := by
  refine wp_go rfl rfl ?_
  refine wp_go rfl rfl ?_
  refine wp_go rfl rfl ?_
  refine wp_ret rfl rfl ?_
  exact k
set_option maxRecDepth 100000 in
theorem c_nsp23 {d : Nat} {h : hc_H} {Q : List hc_V → hc_H → Prop}  (k : Q [xR 14] h) : hc_wp d mX6_nameSpelling 0 [xI 23] [] h Q := by
  refine wp_go rfl rfl ?_
  refine wp_go rfl rfl ?_
  refine wp_go rfl rfl ?_
  refine wp_ret rfl rfl ?_
  exact k
set_option maxRecDepth 100000 in
theorem c_sp23 {d : Nat} {h : hc_H} {Q : List hc_V → hc_H → Prop}  (k : Q [xR 14] h) : hc_wp (d + 1) mX6_spelling 0 [xI 23] [] h Q := by
  refine wp_go rfl rfl ?_
  refine wp_go rfl rfl ?_
  refine wp_go rfl rfl ?_
  refine wp_call rfl rfl rfl rfl ?_
  refine c_nsp23 ?_
  refine wp_ret rfl rfl ?_
  exact k
set_option maxRecDepth 100000 in
theorem c_nsp24 {d : Nat} {h : hc_H} {Q : List hc_V → hc_H → Prop}  (k : Q [xR 15] h) : hc_wp d mX6_nameSpelling 0 [xI 24] [] h Q := by
  refine wp_go rfl rfl ?_
  refine wp_go rfl rfl ?_
  refine wp_go rfl rfl ?_
  refine wp_ret rfl rfl ?_
  exact k
set_option maxRecDepth 100000 in
theorem c_sp24 {d : Nat} {h : hc_H} {Q : List hc_V → hc_H → Prop}  (k : Q [xR 15] h) : hc_wp (d + 1) mX6_spelling 0 [xI 24] [] h Q := by
  refine wp_go rfl rfl ?_
  refine wp_go rfl rfl ?_
  refine wp_go rfl rfl ?_
  refine wp_call rfl rfl rfl rfl ?_
  refine c_nsp24 ?_
  refine wp_ret rfl rfl ?_
  exact k
set_option maxRecDepth 100000 in
theorem c_nsp25 {d : Nat} {h : hc_H} {Q : List hc_V → hc_H → Prop}  (k : Q [xR 16] h) : hc_wp d mX6_nameSpelling 0 [xI 25] [] h Q := by
  refine wp_go rfl rfl ?_
  refine wp_go rfl rfl ?_
  refine wp_go rfl rfl ?_
  refine wp_ret rfl rfl ?_
  exact k
set_option maxRecDepth 100000 in
theorem c_sp25 {d : Nat} {h : hc_H} {Q : List hc_V → hc_H → Prop}  (k : Q [xR 16] h) : hc_wp (d + 1) mX6_spelling 0 [xI 25] [] h Q := by
  refine wp_go rfl rfl ?_
  refine wp_go rfl rfl ?_
  refine wp_go rfl rfl ?_
  refine wp_call rfl rfl rfl rfl ?_
  refine c_nsp25 ?_
  refine wp_ret rfl rfl ?_
  exact k
set_option maxRecDepth 100000 in
theorem c_nsp26 {d : Nat} {h : hc_H} {Q : List hc_V → hc_H → Prop}  (k : Q [xR 17] h) : hc_wp d mX6_nameSpelling 0 [xI 26] [] h Q := by
  refine wp_go rfl rfl ?_
  refine wp_go rfl rfl ?_
  refine wp_go rfl rfl ?_
  refine wp_ret rfl rfl ?_
  exact k
set_option maxRecDepth 100000 in
theorem c_sp26 {d : Nat} {h : hc_H} {Q : List hc_V → hc_H → Prop}  (k : Q [xR 17] h) : hc_wp (d + 1) mX6_spelling 0 [xI 26] [] h Q := by
  refine wp_go rfl rfl ?_
  refine wp_go rfl rfl ?_
  refine wp_go rfl rfl ?_
  refine wp_call rfl rfl rfl rfl ?_
  refine c_nsp26 ?_
  refine wp_ret rfl rfl ?_
  exact k
set_option maxRecDepth 100000 in
theorem c_nsp27 {d : Nat} {h : hc_H} {Q : List hc_V → hc_H → Prop}  (k : Q [xR 18] h) : hc_wp d mX6_nameSpelling 0 [xI 27] [] h Q := by
  refine wp_go rfl rfl ?_
  refine wp_go rfl rfl ?_
  refine wp_go rfl rfl ?_
  refine wp_ret rfl rfl ?_
  exact k
set_option maxRecDepth 100000 in
theorem c_sp27 {d : Nat} {h : hc_H} {Q : List hc_V → hc_H → Prop}  (k : Q [xR 18] h) : hc_wp (d + 1) mX6_spelling 0 [xI 27] [] h Q := by
  refine wp_go rfl rfl ?_
  refine wp_go rfl rfl ?_
  refine wp_go rfl rfl ?_
  refine wp_call rfl rfl rfl rfl ?_
  refine c_nsp27 ?_
  refine wp_ret rfl rfl ?_
  exact k
set_option maxRecDepth 100000 in
theorem c_nsp28 {d : Nat} {h : hc_H} {Q : List hc_V → hc_H → Prop}  (k : Q [xR 19] h) : hc_wp d mX6_nameSpelling 0 [xI 28] [] h Q := by
  refine wp_go rfl rfl ?_
  refine wp_go rfl rfl ?_
  refine wp_go rfl rfl ?_
  refine wp_ret rfl rfl ?_
  exact k
set_option maxRecDepth 100000 in
theorem c_sp28 {d : Nat} {h : hc_H} {Q : List hc_V → hc_H → Prop}  (k : Q [xR 19] h) : hc_wp (d + 1) mX6_spelling 0 [xI 28] [] h Q := by
  refine wp_go rfl rfl ?_
  refine wp_go rfl rfl ?_
  refine wp_go rfl rfl ?_
  refine wp_call rfl rfl rfl rfl ?_
  refine c_nsp28 ?_
  refine wp_ret rfl rfl ?_
  exact k
set_option maxRecDepth 100000 in
theorem c_nsp29 {d : Nat} {h : hc_H} {Q : List hc_V → hc_H → Prop}  (k : Q [xR 20] h) : hc_wp d mX6_nameSpelling 0 [xI 29] [] h Q := by
  refine wp_go rfl rfl ?_
  refine wp_go rfl rfl ?_
  refine wp_go rfl rfl ?_
  refine wp_ret rfl rfl ?_
  exact k
set_option maxRecDepth 100000 in
theorem c_sp29 {d : Nat} {h : hc_H} {Q : List hc_V → hc_H → Prop}  (k : Q [xR 20] h) : hc_wp (d + 1) mX6_spelling 0 [xI 29] [] h Q := by
  refine wp_go rfl rfl ?_
  refine wp_go rfl rfl ?_
  refine wp_go rfl rfl ?_
  refine wp_call rfl rfl rfl rfl ?_
  refine c_nsp29 ?_
  refine wp_ret rfl rfl ?_
  exact k
set_option maxRecDepth 100000 in
theorem l_tw2 {d : Nat} {h : hc_H} {Q : List hc_V → hc_H → Prop} {ct : Int} {n s e : Nat} {B : Nat → Int} (hn : n ≤ 300) (hse : s ≤ e) (hs : s ≤ 300) (he : e ≤ 300) (HS : STR h) (H51 : h.2.2 51 = tko ct (n : Int) (e : Int)) (H70 : h.2.2 70 = ar 300 B) (k : Q [xI (wkd B n s e 20 10)] h) : hc_wp (d + 5) mX6_takeWord 47 [xR 51, xI (s : Int), xI 10] [] h Q := by
  refine wp_go rfl rfl ?_
  refine wp_go rfl rfl ?_
  refine wp_go rfl rfl ?_
  refine wp_go rfl rfl ?_
  refine wp_go rfl rfl ?_
  refine wp_call rfl rfl rfl rfl ?_
  refine c_sp10 ?_
  refine wp_go rfl rfl ?_
  refine wp_cv rfl rfl rfl H51 rfl rfl rfl ?_
  refine c_stands (d := d) (f := sbf 10) (m := sbl 10) hn (by decide) hse hs he H51 H70 (HS 0 (by decide)) (fun q10 => ?_) (fun q10 => ?_)
  · skip
    rw [show wkd B n s e 20 10 = 10 from wkd_t (w := 10) q10] at k
    refine wp_go rfl rfl ?_
    refine wp_go rfl rfl ?_
    refine wp_ret rfl rfl ?_
    exact k
  · skip
    rw [show wkd B n s e 20 10 = wkd B n s e 19 11 from wkd_f (w := 10) q10] at k
    refine wp_go rfl rfl ?_
    refine e_inc (L' := [xR 51, xI (s : Int), xI (10 + 1)]) rfl rfl (by omega) rfl ?_
    show hc_wp (d + 5) mX6_takeWord 70 [xR 51, xI (s : Int), xI 11] [] h Q
    refine wp_go rfl rfl ?_
    refine wp_go rfl rfl ?_
    refine wp_go rfl rfl ?_
    refine wp_go rfl rfl ?_
    refine wp_go rfl rfl ?_
    refine wp_go rfl rfl ?_
    refine wp_call rfl rfl rfl rfl ?_
    refine c_sp11 ?_
    refine wp_go rfl rfl ?_
    refine wp_cv rfl rfl rfl H51 rfl rfl rfl ?_
    refine c_stands (d := d) (f := sbf 11) (m := sbl 11) hn (by decide) hse hs he H51 H70 (HS 1 (by decide)) (fun q11 => ?_) (fun q11 => ?_)
    · skip
      rw [show wkd B n s e 19 11 = 11 from wkd_t (w := 11) q11] at k
      refine wp_go rfl rfl ?_
      refine wp_go rfl rfl ?_
      refine wp_ret rfl rfl ?_
      exact k
    · skip
      rw [show wkd B n s e 19 11 = wkd B n s e 18 12 from wkd_f (w := 11) q11] at k
      refine wp_go rfl rfl ?_
      refine e_inc (L' := [xR 51, xI (s : Int), xI (11 + 1)]) rfl rfl (by omega) rfl ?_
      show hc_wp (d + 5) mX6_takeWord 70 [xR 51, xI (s : Int), xI 12] [] h Q
      refine wp_go rfl rfl ?_
      refine wp_go rfl rfl ?_
      refine wp_go rfl rfl ?_
      refine wp_go rfl rfl ?_
      refine wp_go rfl rfl ?_
      refine wp_go rfl rfl ?_
      refine wp_call rfl rfl rfl rfl ?_
      refine c_sp12 ?_
      refine wp_go rfl rfl ?_
      refine wp_cv rfl rfl rfl H51 rfl rfl rfl ?_
      refine c_stands (d := d) (f := sbf 12) (m := sbl 12) hn (by decide) hse hs he H51 H70 (HS 2 (by decide)) (fun q12 => ?_) (fun q12 => ?_)
      · skip
        rw [show wkd B n s e 18 12 = 12 from wkd_t (w := 12) q12] at k
        refine wp_go rfl rfl ?_
        refine wp_go rfl rfl ?_
        refine wp_ret rfl rfl ?_
        exact k
      · skip
        rw [show wkd B n s e 18 12 = wkd B n s e 17 13 from wkd_f (w := 12) q12] at k
        refine wp_go rfl rfl ?_
        refine e_inc (L' := [xR 51, xI (s : Int), xI (12 + 1)]) rfl rfl (by omega) rfl ?_
        show hc_wp (d + 5) mX6_takeWord 70 [xR 51, xI (s : Int), xI 13] [] h Q
        refine wp_go rfl rfl ?_
        refine wp_go rfl rfl ?_
        refine wp_go rfl rfl ?_
        refine wp_go rfl rfl ?_
        refine wp_go rfl rfl ?_
        refine wp_go rfl rfl ?_
        refine wp_call rfl rfl rfl rfl ?_
        refine c_sp13 ?_
        refine wp_go rfl rfl ?_
        refine wp_cv rfl rfl rfl H51 rfl rfl rfl ?_
        refine c_stands (d := d) (f := sbf 13) (m := sbl 13) hn (by decide) hse hs he H51 H70 (HS 3 (by decide)) (fun q13 => ?_) (fun q13 => ?_)
        · skip
          rw [show wkd B n s e 17 13 = 13 from wkd_t (w := 13) q13] at k
          refine wp_go rfl rfl ?_
          refine wp_go rfl rfl ?_
          refine wp_ret rfl rfl ?_
          exact k
        · skip
          rw [show wkd B n s e 17 13 = wkd B n s e 16 14 from wkd_f (w := 13) q13] at k
          refine wp_go rfl rfl ?_
          refine e_inc (L' := [xR 51, xI (s : Int), xI (13 + 1)]) rfl rfl (by omega) rfl ?_
          show hc_wp (d + 5) mX6_takeWord 70 [xR 51, xI (s : Int), xI 14] [] h Q
          refine wp_go rfl rfl ?_
          refine wp_go rfl rfl ?_
          refine wp_go rfl rfl ?_
          refine wp_go rfl rfl ?_
          refine wp_go rfl rfl ?_
          refine wp_go rfl rfl ?_
          refine wp_call rfl rfl rfl rfl ?_
          refine c_sp14 ?_
          refine wp_go rfl rfl ?_
          refine wp_cv rfl rfl rfl H51 rfl rfl rfl ?_
          refine c_stands (d := d) (f := sbf 14) (m := sbl 14) hn (by decide) hse hs he H51 H70 (HS 4 (by decide)) (fun q14 => ?_) (fun q14 => ?_)
          · skip
            rw [show wkd B n s e 16 14 = 14 from wkd_t (w := 14) q14] at k
            refine wp_go rfl rfl ?_
            refine wp_go rfl rfl ?_
            refine wp_ret rfl rfl ?_
            exact k
          · skip
            rw [show wkd B n s e 16 14 = wkd B n s e 15 15 from wkd_f (w := 14) q14] at k
            refine wp_go rfl rfl ?_
            refine e_inc (L' := [xR 51, xI (s : Int), xI (14 + 1)]) rfl rfl (by omega) rfl ?_
            show hc_wp (d + 5) mX6_takeWord 70 [xR 51, xI (s : Int), xI 15] [] h Q
            refine wp_go rfl rfl ?_
            refine wp_go rfl rfl ?_
            refine wp_go rfl rfl ?_
            refine wp_go rfl rfl ?_
            refine wp_go rfl rfl ?_
            refine wp_go rfl rfl ?_
            refine wp_call rfl rfl rfl rfl ?_
            refine c_sp15 ?_
            refine wp_go rfl rfl ?_
            refine wp_cv rfl rfl rfl H51 rfl rfl rfl ?_
            refine c_stands (d := d) (f := sbf 15) (m := sbl 15) hn (by decide) hse hs he H51 H70 (HS 5 (by decide)) (fun q15 => ?_) (fun q15 => ?_)
            · skip
              rw [show wkd B n s e 15 15 = 15 from wkd_t (w := 15) q15] at k
              refine wp_go rfl rfl ?_
              refine wp_go rfl rfl ?_
              refine wp_ret rfl rfl ?_
              exact k
            · skip
              rw [show wkd B n s e 15 15 = wkd B n s e 14 16 from wkd_f (w := 15) q15] at k
              refine wp_go rfl rfl ?_
              refine e_inc (L' := [xR 51, xI (s : Int), xI (15 + 1)]) rfl rfl (by omega) rfl ?_
              show hc_wp (d + 5) mX6_takeWord 70 [xR 51, xI (s : Int), xI 16] [] h Q
              refine wp_go rfl rfl ?_
              refine wp_go rfl rfl ?_
              refine wp_go rfl rfl ?_
              refine wp_go rfl rfl ?_
              refine wp_go rfl rfl ?_
              refine wp_go rfl rfl ?_
              refine wp_call rfl rfl rfl rfl ?_
              refine c_sp16 ?_
              refine wp_go rfl rfl ?_
              refine wp_cv rfl rfl rfl H51 rfl rfl rfl ?_
              refine c_stands (d := d) (f := sbf 16) (m := sbl 16) hn (by decide) hse hs he H51 H70 (HS 6 (by decide)) (fun q16 => ?_) (fun q16 => ?_)
              · skip
                rw [show wkd B n s e 14 16 = 16 from wkd_t (w := 16) q16] at k
                refine wp_go rfl rfl ?_
                refine wp_go rfl rfl ?_
                refine wp_ret rfl rfl ?_
                exact k
              · skip
                rw [show wkd B n s e 14 16 = wkd B n s e 13 17 from wkd_f (w := 16) q16] at k
                refine wp_go rfl rfl ?_
                refine e_inc (L' := [xR 51, xI (s : Int), xI (16 + 1)]) rfl rfl (by omega) rfl ?_
                show hc_wp (d + 5) mX6_takeWord 70 [xR 51, xI (s : Int), xI 17] [] h Q
                refine wp_go rfl rfl ?_
                refine wp_go rfl rfl ?_
                refine wp_go rfl rfl ?_
                refine wp_go rfl rfl ?_
                refine wp_go rfl rfl ?_
                refine wp_go rfl rfl ?_
                refine wp_call rfl rfl rfl rfl ?_
                refine c_sp17 ?_
                refine wp_go rfl rfl ?_
                refine wp_cv rfl rfl rfl H51 rfl rfl rfl ?_
                refine c_stands (d := d) (f := sbf 17) (m := sbl 17) hn (by decide) hse hs he H51 H70 (HS 7 (by decide)) (fun q17 => ?_) (fun q17 => ?_)
                · skip
                  rw [show wkd B n s e 13 17 = 17 from wkd_t (w := 17) q17] at k
                  refine wp_go rfl rfl ?_
                  refine wp_go rfl rfl ?_
                  refine wp_ret rfl rfl ?_
                  exact k
                · skip
                  rw [show wkd B n s e 13 17 = wkd B n s e 12 18 from wkd_f (w := 17) q17] at k
                  refine wp_go rfl rfl ?_
                  refine e_inc (L' := [xR 51, xI (s : Int), xI (17 + 1)]) rfl rfl (by omega) rfl ?_
                  show hc_wp (d + 5) mX6_takeWord 70 [xR 51, xI (s : Int), xI 18] [] h Q
                  refine wp_go rfl rfl ?_
                  refine wp_go rfl rfl ?_
                  refine wp_go rfl rfl ?_
                  refine wp_go rfl rfl ?_
                  refine wp_go rfl rfl ?_
                  refine wp_go rfl rfl ?_
                  refine wp_call rfl rfl rfl rfl ?_
                  refine c_sp18 ?_
                  refine wp_go rfl rfl ?_
                  refine wp_cv rfl rfl rfl H51 rfl rfl rfl ?_
                  refine c_stands (d := d) (f := sbf 18) (m := sbl 18) hn (by decide) hse hs he H51 H70 (HS 8 (by decide)) (fun q18 => ?_) (fun q18 => ?_)
                  · skip
                    rw [show wkd B n s e 12 18 = 18 from wkd_t (w := 18) q18] at k
                    refine wp_go rfl rfl ?_
                    refine wp_go rfl rfl ?_
                    refine wp_ret rfl rfl ?_
                    exact k
                  · skip
                    rw [show wkd B n s e 12 18 = wkd B n s e 11 19 from wkd_f (w := 18) q18] at k
                    refine wp_go rfl rfl ?_
                    refine e_inc (L' := [xR 51, xI (s : Int), xI (18 + 1)]) rfl rfl (by omega) rfl ?_
                    show hc_wp (d + 5) mX6_takeWord 70 [xR 51, xI (s : Int), xI 19] [] h Q
                    refine wp_go rfl rfl ?_
                    refine wp_go rfl rfl ?_
                    refine wp_go rfl rfl ?_
                    refine wp_go rfl rfl ?_
                    refine wp_go rfl rfl ?_
                    refine wp_go rfl rfl ?_
                    refine wp_call rfl rfl rfl rfl ?_
                    refine c_sp19 ?_
                    refine wp_go rfl rfl ?_
                    refine wp_cv rfl rfl rfl H51 rfl rfl rfl ?_
                    refine c_stands (d := d) (f := sbf 19) (m := sbl 19) hn (by decide) hse hs he H51 H70 (HS 9 (by decide)) (fun q19 => ?_) (fun q19 => ?_)
                    · skip
                      rw [show wkd B n s e 11 19 = 19 from wkd_t (w := 19) q19] at k
                      refine wp_go rfl rfl ?_
                      refine wp_go rfl rfl ?_
                      refine wp_ret rfl rfl ?_
                      exact k
                    · skip
                      rw [show wkd B n s e 11 19 = wkd B n s e 10 20 from wkd_f (w := 19) q19] at k
                      refine wp_go rfl rfl ?_
                      refine e_inc (L' := [xR 51, xI (s : Int), xI (19 + 1)]) rfl rfl (by omega) rfl ?_
                      show hc_wp (d + 5) mX6_takeWord 70 [xR 51, xI (s : Int), xI 20] [] h Q
                      refine wp_go rfl rfl ?_
                      refine wp_go rfl rfl ?_
                      refine wp_go rfl rfl ?_
                      refine wp_go rfl rfl ?_
                      refine wp_go rfl rfl ?_
                      refine wp_go rfl rfl ?_
                      refine wp_call rfl rfl rfl rfl ?_
                      refine c_sp20 ?_
                      refine wp_go rfl rfl ?_
                      refine wp_cv rfl rfl rfl H51 rfl rfl rfl ?_
                      refine c_stands (d := d) (f := sbf 20) (m := sbl 20) hn (by decide) hse hs he H51 H70 (HS 10 (by decide)) (fun q20 => ?_) (fun q20 => ?_)
                      · skip
                        rw [show wkd B n s e 10 20 = 20 from wkd_t (w := 20) q20] at k
                        refine wp_go rfl rfl ?_
                        refine wp_go rfl rfl ?_
                        refine wp_ret rfl rfl ?_
                        exact k
                      · skip
                        rw [show wkd B n s e 10 20 = wkd B n s e 9 21 from wkd_f (w := 20) q20] at k
                        refine wp_go rfl rfl ?_
                        refine e_inc (L' := [xR 51, xI (s : Int), xI (20 + 1)]) rfl rfl (by omega) rfl ?_
                        show hc_wp (d + 5) mX6_takeWord 70 [xR 51, xI (s : Int), xI 21] [] h Q
                        refine wp_go rfl rfl ?_
                        refine wp_go rfl rfl ?_
                        refine wp_go rfl rfl ?_
                        refine wp_go rfl rfl ?_
                        refine wp_go rfl rfl ?_
                        refine wp_go rfl rfl ?_
                        refine wp_call rfl rfl rfl rfl ?_
                        refine c_sp21 ?_
                        refine wp_go rfl rfl ?_
                        refine wp_cv rfl rfl rfl H51 rfl rfl rfl ?_
                        refine c_stands (d := d) (f := sbf 21) (m := sbl 21) hn (by decide) hse hs he H51 H70 (HS 11 (by decide)) (fun q21 => ?_) (fun q21 => ?_)
                        · skip
                          rw [show wkd B n s e 9 21 = 21 from wkd_t (w := 21) q21] at k
                          refine wp_go rfl rfl ?_
                          refine wp_go rfl rfl ?_
                          refine wp_ret rfl rfl ?_
                          exact k
                        · skip
                          rw [show wkd B n s e 9 21 = wkd B n s e 8 22 from wkd_f (w := 21) q21] at k
                          refine wp_go rfl rfl ?_
                          refine e_inc (L' := [xR 51, xI (s : Int), xI (21 + 1)]) rfl rfl (by omega) rfl ?_
                          show hc_wp (d + 5) mX6_takeWord 70 [xR 51, xI (s : Int), xI 22] [] h Q
                          refine wp_go rfl rfl ?_
                          refine wp_go rfl rfl ?_
                          refine wp_go rfl rfl ?_
                          refine wp_go rfl rfl ?_
                          refine wp_go rfl rfl ?_
                          refine wp_go rfl rfl ?_
                          refine wp_call rfl rfl rfl rfl ?_
                          refine c_sp22 ?_
                          refine wp_go rfl rfl ?_
                          refine wp_cv rfl rfl rfl H51 rfl rfl rfl ?_
                          refine c_stands (d := d) (f := sbf 22) (m := sbl 22) hn (by decide) hse hs he H51 H70 (HS 12 (by decide)) (fun q22 => ?_) (fun q22 => ?_)
                          · skip
                            rw [show wkd B n s e 8 22 = 22 from wkd_t (w := 22) q22] at k
                            refine wp_go rfl rfl ?_
                            refine wp_go rfl rfl ?_
                            refine wp_ret rfl rfl ?_
                            exact k
                          · skip
                            rw [show wkd B n s e 8 22 = wkd B n s e 7 23 from wkd_f (w := 22) q22] at k
                            refine wp_go rfl rfl ?_
                            refine e_inc (L' := [xR 51, xI (s : Int), xI (22 + 1)]) rfl rfl (by omega) rfl ?_
                            show hc_wp (d + 5) mX6_takeWord 70 [xR 51, xI (s : Int), xI 23] [] h Q
                            refine wp_go rfl rfl ?_
                            refine wp_go rfl rfl ?_
                            refine wp_go rfl rfl ?_
                            refine wp_go rfl rfl ?_
                            refine wp_go rfl rfl ?_
                            refine wp_go rfl rfl ?_
                            refine wp_call rfl rfl rfl rfl ?_
                            refine c_sp23 ?_
                            refine wp_go rfl rfl ?_
                            refine wp_cv rfl rfl rfl H51 rfl rfl rfl ?_
                            refine c_stands (d := d) (f := sbf 23) (m := sbl 23) hn (by decide) hse hs he H51 H70 (HS 13 (by decide)) (fun q23 => ?_) (fun q23 => ?_)
                            · skip
                              rw [show wkd B n s e 7 23 = 23 from wkd_t (w := 23) q23] at k
                              refine wp_go rfl rfl ?_
                              refine wp_go rfl rfl ?_
                              refine wp_ret rfl rfl ?_
                              exact k
                            · skip
                              rw [show wkd B n s e 7 23 = wkd B n s e 6 24 from wkd_f (w := 23) q23] at k
                              refine wp_go rfl rfl ?_
                              refine e_inc (L' := [xR 51, xI (s : Int), xI (23 + 1)]) rfl rfl (by omega) rfl ?_
                              show hc_wp (d + 5) mX6_takeWord 70 [xR 51, xI (s : Int), xI 24] [] h Q
                              refine wp_go rfl rfl ?_
                              refine wp_go rfl rfl ?_
                              refine wp_go rfl rfl ?_
                              refine wp_go rfl rfl ?_
                              refine wp_go rfl rfl ?_
                              refine wp_go rfl rfl ?_
                              refine wp_call rfl rfl rfl rfl ?_
                              refine c_sp24 ?_
                              refine wp_go rfl rfl ?_
                              refine wp_cv rfl rfl rfl H51 rfl rfl rfl ?_
                              refine c_stands (d := d) (f := sbf 24) (m := sbl 24) hn (by decide) hse hs he H51 H70 (HS 14 (by decide)) (fun q24 => ?_) (fun q24 => ?_)
                              · skip
                                rw [show wkd B n s e 6 24 = 24 from wkd_t (w := 24) q24] at k
                                refine wp_go rfl rfl ?_
                                refine wp_go rfl rfl ?_
                                refine wp_ret rfl rfl ?_
                                exact k
                              · skip
                                rw [show wkd B n s e 6 24 = wkd B n s e 5 25 from wkd_f (w := 24) q24] at k
                                refine wp_go rfl rfl ?_
                                refine e_inc (L' := [xR 51, xI (s : Int), xI (24 + 1)]) rfl rfl (by omega) rfl ?_
                                show hc_wp (d + 5) mX6_takeWord 70 [xR 51, xI (s : Int), xI 25] [] h Q
                                refine wp_go rfl rfl ?_
                                refine wp_go rfl rfl ?_
                                refine wp_go rfl rfl ?_
                                refine wp_go rfl rfl ?_
                                refine wp_go rfl rfl ?_
                                refine wp_go rfl rfl ?_
                                refine wp_call rfl rfl rfl rfl ?_
                                refine c_sp25 ?_
                                refine wp_go rfl rfl ?_
                                refine wp_cv rfl rfl rfl H51 rfl rfl rfl ?_
                                refine c_stands (d := d) (f := sbf 25) (m := sbl 25) hn (by decide) hse hs he H51 H70 (HS 15 (by decide)) (fun q25 => ?_) (fun q25 => ?_)
                                · skip
                                  rw [show wkd B n s e 5 25 = 25 from wkd_t (w := 25) q25] at k
                                  refine wp_go rfl rfl ?_
                                  refine wp_go rfl rfl ?_
                                  refine wp_ret rfl rfl ?_
                                  exact k
                                · skip
                                  rw [show wkd B n s e 5 25 = wkd B n s e 4 26 from wkd_f (w := 25) q25] at k
                                  refine wp_go rfl rfl ?_
                                  refine e_inc (L' := [xR 51, xI (s : Int), xI (25 + 1)]) rfl rfl (by omega) rfl ?_
                                  show hc_wp (d + 5) mX6_takeWord 70 [xR 51, xI (s : Int), xI 26] [] h Q
                                  refine wp_go rfl rfl ?_
                                  refine wp_go rfl rfl ?_
                                  refine wp_go rfl rfl ?_
                                  refine wp_go rfl rfl ?_
                                  refine wp_go rfl rfl ?_
                                  refine wp_go rfl rfl ?_
                                  refine wp_call rfl rfl rfl rfl ?_
                                  refine c_sp26 ?_
                                  refine wp_go rfl rfl ?_
                                  refine wp_cv rfl rfl rfl H51 rfl rfl rfl ?_
                                  refine c_stands (d := d) (f := sbf 26) (m := sbl 26) hn (by decide) hse hs he H51 H70 (HS 16 (by decide)) (fun q26 => ?_) (fun q26 => ?_)
                                  · skip
                                    rw [show wkd B n s e 4 26 = 26 from wkd_t (w := 26) q26] at k
                                    refine wp_go rfl rfl ?_
                                    refine wp_go rfl rfl ?_
                                    refine wp_ret rfl rfl ?_
                                    exact k
                                  · skip
                                    rw [show wkd B n s e 4 26 = wkd B n s e 3 27 from wkd_f (w := 26) q26] at k
                                    refine wp_go rfl rfl ?_
                                    refine e_inc (L' := [xR 51, xI (s : Int), xI (26 + 1)]) rfl rfl (by omega) rfl ?_
                                    show hc_wp (d + 5) mX6_takeWord 70 [xR 51, xI (s : Int), xI 27] [] h Q
                                    refine wp_go rfl rfl ?_
                                    refine wp_go rfl rfl ?_
                                    refine wp_go rfl rfl ?_
                                    refine wp_go rfl rfl ?_
                                    refine wp_go rfl rfl ?_
                                    refine wp_go rfl rfl ?_
                                    refine wp_call rfl rfl rfl rfl ?_
                                    refine c_sp27 ?_
                                    refine wp_go rfl rfl ?_
                                    refine wp_cv rfl rfl rfl H51 rfl rfl rfl ?_
                                    refine c_stands (d := d) (f := sbf 27) (m := sbl 27) hn (by decide) hse hs he H51 H70 (HS 17 (by decide)) (fun q27 => ?_) (fun q27 => ?_)
                                    · skip
                                      rw [show wkd B n s e 3 27 = 27 from wkd_t (w := 27) q27] at k
                                      refine wp_go rfl rfl ?_
                                      refine wp_go rfl rfl ?_
                                      refine wp_ret rfl rfl ?_
                                      exact k
                                    · skip
                                      rw [show wkd B n s e 3 27 = wkd B n s e 2 28 from wkd_f (w := 27) q27] at k
                                      refine wp_go rfl rfl ?_
                                      refine e_inc (L' := [xR 51, xI (s : Int), xI (27 + 1)]) rfl rfl (by omega) rfl ?_
                                      show hc_wp (d + 5) mX6_takeWord 70 [xR 51, xI (s : Int), xI 28] [] h Q
                                      refine wp_go rfl rfl ?_
                                      refine wp_go rfl rfl ?_
                                      refine wp_go rfl rfl ?_
                                      refine wp_go rfl rfl ?_
                                      refine wp_go rfl rfl ?_
                                      refine wp_go rfl rfl ?_
                                      refine wp_call rfl rfl rfl rfl ?_
                                      refine c_sp28 ?_
                                      refine wp_go rfl rfl ?_
                                      refine wp_cv rfl rfl rfl H51 rfl rfl rfl ?_
                                      refine c_stands (d := d) (f := sbf 28) (m := sbl 28) hn (by decide) hse hs he H51 H70 (HS 18 (by decide)) (fun q28 => ?_) (fun q28 => ?_)
                                      · skip
                                        rw [show wkd B n s e 2 28 = 28 from wkd_t (w := 28) q28] at k
                                        refine wp_go rfl rfl ?_
                                        refine wp_go rfl rfl ?_
                                        refine wp_ret rfl rfl ?_
                                        exact k
                                      · skip
                                        rw [show wkd B n s e 2 28 = wkd B n s e 1 29 from wkd_f (w := 28) q28] at k
                                        refine wp_go rfl rfl ?_
                                        refine e_inc (L' := [xR 51, xI (s : Int), xI (28 + 1)]) rfl rfl (by omega) rfl ?_
                                        show hc_wp (d + 5) mX6_takeWord 70 [xR 51, xI (s : Int), xI 29] [] h Q
                                        refine wp_go rfl rfl ?_
                                        refine wp_go rfl rfl ?_
                                        refine wp_go rfl rfl ?_
                                        refine wp_go rfl rfl ?_
                                        refine wp_go rfl rfl ?_
                                        refine wp_go rfl rfl ?_
                                        refine wp_call rfl rfl rfl rfl ?_
                                        refine c_sp29 ?_
                                        refine wp_go rfl rfl ?_
                                        refine wp_cv rfl rfl rfl H51 rfl rfl rfl ?_
                                        refine c_stands (d := d) (f := sbf 29) (m := sbl 29) hn (by decide) hse hs he H51 H70 (HS 19 (by decide)) (fun q29 => ?_) (fun q29 => ?_)
                                        · skip
                                          rw [show wkd B n s e 1 29 = 29 from wkd_t (w := 29) q29] at k
                                          refine wp_go rfl rfl ?_
                                          refine wp_go rfl rfl ?_
                                          refine wp_ret rfl rfl ?_
                                          exact k
                                        · skip
                                          rw [show wkd B n s e 1 29 = wkd B n s e 0 30 from wkd_f (w := 29) q29] at k
                                          refine wp_go rfl rfl ?_
                                          refine e_inc (L' := [xR 51, xI (s : Int), xI (29 + 1)]) rfl rfl (by omega) rfl ?_
                                          show hc_wp (d + 5) mX6_takeWord 70 [xR 51, xI (s : Int), xI 30] [] h Q
                                          refine wp_go rfl rfl ?_
                                          refine wp_go rfl rfl ?_
                                          refine wp_go rfl rfl ?_
                                          refine wp_go rfl rfl ?_
                                          refine wp_go rfl rfl ?_
                                          refine wp_ret rfl rfl ?_
                                          exact k
theorem nin_lo {i : Nat} (hi : i < 21) : nin [51] (i + 1) = true := by
  have : ∀ j : Fin 21, nin [51] (j.1 + 1) = true := by decide
  exact this ⟨i, hi⟩
set_option maxRecDepth 100000 in
theorem c_takeWord {d : Nat} {h : hc_H} {Q : List hc_V → hc_H → Prop} {ct : Int} {n p : Nat} {B : Nat → Int} (hn : n ≤ 300) (hp : p ≤ n) (HS : STR h) (H51 : h.2.2 51 = tko ct (n : Int) (p : Int)) (H70 : h.2.2 70 = ar 300 B) (k : ∀ h2, h2.2.2 51 = tko ct (n : Int) ((rne isLe B n 300 p : Nat) : Int) → Fr [51] h h2 → Q [xI (wkd B n p (rne isLe B n 300 p) 20 10)] h2) : hc_wp (d + 5) mX6_takeWord 0 [xR 51, none, none] [] h Q := by
  refine wp_go rfl rfl ?_
  refine e_get rfl H51 rfl rfl ?_
  refine e_istn (L' := [xR 51, xI (p : Int), none]) rfl rfl rfl ?_
  refine wp_go rfl rfl ?_
  refine e_istn (L' := [xR 51, xI (p : Int), xI 0]) rfl rfl rfl ?_
  refine l_tw1 (d := d) hn 300 p 0 h (by omega) hp H51 H70 Fr.rf (fun h2 b2 A F => ?_) trivial
  have hb := rne_bd (B := B) (n := n) le_k 300 p hp
  refine wp_go rfl rfl ?_
  refine e_istn (L' := [xR 51, xI (p : Int), xI 10]) rfl rfl rfl ?_
  exact l_tw2 hn hb.1 (by omega) (by omega) (fun i hi => (F.2.2 _ (nin_lo hi)).trans (HS i hi)) A ((F.2.2 70 rfl).trans H70) (k h2 A F)
