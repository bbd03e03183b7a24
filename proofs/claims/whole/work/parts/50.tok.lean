/-! tokens: what both sides see of a tape of n bytes -/
def bt (B : Nat → Int) (n p : Nat) : Int := if p < n then B p else -1
def isBl (c : Int) : Bool := decide (c = 32) || decide (c = 10)
def isLe (c : Int) : Bool := decide ((97 ≤ c ∧ c ≤ 122) ∨ (65 ≤ c ∧ c ≤ 90))
def isDi (c : Int) : Bool := decide (48 ≤ c ∧ c ≤ 57)
def rne (P : Int → Bool) (B : Nat → Int) (n : Nat) : Nat → Nat → Nat
  | 0, p => p
  | g + 1, p => if P (bt B n p) = true then rne P B n g (p + 1) else p
def dgv (B : Nat → Int) (n : Nat) : Nat → Nat → Int → Int
  | 0, _, v => v
  | g + 1, p, v => if isDi (bt B n p) = true then dgv B n g (p + 1) (if v * 10 + bt B n p - 48 < 10000 then v * 10 + bt B n p - 48 else 10000) else v
def BY (B : Nat → Int) : Prop := ∀ j, j < 300 → 0 ≤ B j ∧ B j ≤ 255
theorem bt_bd {B : Nat → Int} {n p : Nat} (H : BY B) (hn : n ≤ 300) : -1 ≤ bt B n p ∧ bt B n p ≤ 255 := by
  unfold bt
  split
  · have := H p (by omega)
    omega
  · omega
def TKP (P : Int → Bool) : Prop := P (-1) = false
theorem tk_lt {P : Int → Bool} {B : Nat → Int} {n p : Nat} (hP : TKP P) (h : P (bt B n p) = true) : p < n := by
  rcases Nat.lt_or_ge p n with c | c
  · exact c
  · unfold bt at h
    rw [if_neg (by omega), hP] at h
    exact absurd h (by decide)
theorem rne_bd {P : Int → Bool} {B : Nat → Int} {n : Nat} (hP : TKP P) : ∀ (g p : Nat), p ≤ n → p ≤ rne P B n g p ∧ rne P B n g p ≤ n
  | 0, p, h => ⟨Nat.le_refl p, h⟩
  | g + 1, p, h => by
    rw [rne]
    split
    · rename_i c
      have := rne_bd (B := B) hP g (p + 1) (tk_lt hP c)
      omega
    · omega
theorem rne_end {P : Int → Bool} {B : Nat → Int} {n : Nat} (hP : TKP P) : ∀ (g p : Nat), p ≤ n → n ≤ p + g → P (bt B n (rne P B n g p)) = false
  | 0, p, h, h2 => by
    rw [rne, show p = n by omega]
    unfold bt
    rw [if_neg (by omega)]
    exact hP
  | g + 1, p, h, h2 => by
    rw [rne]
    split
    · rename_i c
      exact rne_end hP g (p + 1) (tk_lt hP c) (by omega)
    · rename_i c
      cases q : P (bt B n p) with
      | false => rfl
      | true => exact absurd q c
theorem bl_k : TKP isBl := by show isBl (-1) = false; decide
theorem le_k : TKP isLe := by show isLe (-1) = false; decide
theorem di_k : TKP isDi := by show isDi (-1) = false; decide
abbrev tko (ct ln bh : Int) : hc_E := .inr (6, [xR 52, xR 53, xR 54, xI ct, xR 70, xI ln, xI bh])
set_option maxRecDepth 100000 in
theorem c_byteAt {d : Nat} {h : hc_H} {Q : List hc_V → hc_H → Prop} {ct bh : Int} {n p : Nat} {B : Nat → Int} (H51 : h.2.2 51 = tko ct (n : Int) bh) (H70 : h.2.2 70 = ar 300 B) (hn : n ≤ 300) (k : Q [xI (bt B n p)] h) : hc_wp d mX6_byteAt 0 [xR 51, xI (p : Int)] [] h Q := by
  refine wp_go rfl rfl ?_
  refine e_get rfl H51 rfl rfl ?_
  refine wp_go rfl rfl ?_
  refine wp_go rfl rfl ?_
  refine e_iflt rfl (fun c8 => ?_) (fun c8 => ?_)
  · skip
    refine wp_go rfl rfl ?_
    refine wp_ret rfl rfl ?_
    first | exact absurd c8 (by omega) | exact absurd c25 (by omega) | (rw [show bt B n p = -1 from if_neg (by omega)] at k; exact k)
  · skip
    refine wp_go rfl rfl ?_
    refine wp_go rfl rfl ?_
    refine e_get rfl H51 rfl rfl ?_
    refine e_cge rfl (fun c16 => ?_) (fun c16 => ?_)
    · skip
      refine wp_go rfl rfl ?_
      refine wp_ret rfl rfl ?_
      first | exact absurd c8 (by omega) | exact absurd c25 (by omega) | (rw [show bt B n p = -1 from if_neg (by omega)] at k; exact k)
    · skip
      refine wp_go rfl rfl ?_
      refine wp_go rfl rfl ?_
      refine e_get rfl H51 rfl rfl ?_
      refine e_alen rfl H70 rfl (by decide) ?_
      refine e_cge rfl (fun c25 => ?_) (fun c25 => ?_)
      · skip
        refine wp_go rfl rfl ?_
        refine wp_ret rfl rfl ?_
        first | exact absurd c8 (by omega) | exact absurd c25 (by omega) | (rw [show bt B n p = -1 from if_neg (by omega)] at k; exact k)
      · skip
        refine wp_go rfl rfl ?_
        refine e_get rfl H51 rfl rfl ?_
        refine wp_go rfl rfl ?_
        refine e_ald rfl H70 rfl (by omega) ?_
        refine wp_go rfl rfl ?_
        refine wp_ret rfl rfl ?_
        rw [show bt B n p = B p from if_pos (by omega)] at k
        exact k
set_option maxRecDepth 100000 in
theorem c_tisBlank {d : Nat} {h : hc_H} {Q : List hc_V → hc_H → Prop} {c : Int} (kt : isBl c = true → Q [xI 1] h) (kf : isBl c = false → Q [xI 0] h) : hc_wp d mX6_isBlank 0 [xI c] [] h Q := by
  refine wp_go rfl rfl ?_
  refine wp_go rfl rfl ?_
  refine e_ceq rfl (fun c3 => ?_) (fun c3 => ?_)
  · skip
    refine wp_go rfl rfl ?_
    refine wp_go rfl rfl ?_
    refine wp_ret rfl rfl ?_
    exact kt (by unfold isBl; simp; omega)
  · skip
    refine wp_go rfl rfl ?_
    refine wp_go rfl rfl ?_
    refine e_cne rfl (fun c9 => ?_) (fun c9 => ?_)
    · skip
      refine wp_go rfl rfl ?_
      refine wp_ret rfl rfl ?_
      exact kf (by unfold isBl; simp; omega)
    · skip
      refine wp_go rfl rfl ?_
      refine wp_go rfl rfl ?_
      refine wp_ret rfl rfl ?_
      exact kt (by unfold isBl; simp; omega)
set_option maxRecDepth 100000 in
theorem c_tisLetter {d : Nat} {h : hc_H} {Q : List hc_V → hc_H → Prop} {c : Int} (kt : isLe c = true → Q [xI 1] h) (kf : isLe c = false → Q [xI 0] h) : hc_wp d mX6_isLetter 0 [xI c] [] h Q := by
  refine wp_go rfl rfl ?_
  refine wp_go rfl rfl ?_
  refine e_clt rfl (fun c3 => ?_) (fun c3 => ?_)
  · skip
    refine wp_go rfl rfl ?_
    refine wp_go rfl rfl ?_
    refine e_clt rfl (fun c15 => ?_) (fun c15 => ?_)
    · skip
      refine wp_go rfl rfl ?_
      refine wp_ret rfl rfl ?_
      exact kf (by unfold isLe; simp; omega)
    · skip
      refine wp_go rfl rfl ?_
      refine wp_go rfl rfl ?_
      refine e_cgt rfl (fun c21 => ?_) (fun c21 => ?_)
      · skip
        refine wp_go rfl rfl ?_
        refine wp_ret rfl rfl ?_
        exact kf (by unfold isLe; simp; omega)
      · skip
        refine wp_go rfl rfl ?_
        refine wp_go rfl rfl ?_
        refine wp_ret rfl rfl ?_
        exact kt (by unfold isLe; simp; omega)
  · skip
    refine wp_go rfl rfl ?_
    refine wp_go rfl rfl ?_
    refine e_cle rfl (fun c9 => ?_) (fun c9 => ?_)
    · skip
      refine wp_go rfl rfl ?_
      refine wp_go rfl rfl ?_
      refine wp_ret rfl rfl ?_
      exact kt (by unfold isLe; simp; omega)
    · skip
      refine wp_go rfl rfl ?_
      refine wp_go rfl rfl ?_
      refine e_clt rfl (fun c15 => ?_) (fun c15 => ?_)
      · skip
        refine wp_go rfl rfl ?_
        refine wp_ret rfl rfl ?_
        exact kf (by unfold isLe; simp; omega)
      · skip
        refine wp_go rfl rfl ?_
        refine wp_go rfl rfl ?_
        refine e_cgt rfl (fun c21 => ?_) (fun c21 => ?_)
        · skip
          refine wp_go rfl rfl ?_
          refine wp_ret rfl rfl ?_
          exact kf (by unfold isLe; simp; omega)
        · skip
          refine wp_go rfl rfl ?_
          refine wp_go rfl rfl ?_
          refine wp_ret rfl rfl ?_
          exact kt (by unfold isLe; simp; omega)
set_option maxRecDepth 100000 in
theorem c_tisDigit {d : Nat} {h : hc_H} {Q : List hc_V → hc_H → Prop} {c : Int} (kt : isDi c = true → Q [xI 1] h) (kf : isDi c = false → Q [xI 0] h) : hc_wp d mX6_isDigit 0 [xI c] [] h Q := by
  refine wp_go rfl rfl ?_
  refine wp_go rfl rfl ?_
  refine e_clt rfl (fun c3 => ?_) (fun c3 => ?_)
  · skip
    refine wp_go rfl rfl ?_
    refine wp_ret rfl rfl ?_
    exact kf (by unfold isDi; simp; omega)
  · skip
    refine wp_go rfl rfl ?_
    refine wp_go rfl rfl ?_
    refine e_cgt rfl (fun c9 => ?_) (fun c9 => ?_)
    · skip
      refine wp_go rfl rfl ?_
      refine wp_ret rfl rfl ?_
      exact kf (by unfold isDi; simp; omega)
    · skip
      refine wp_go rfl rfl ?_
      refine wp_go rfl rfl ?_
      refine wp_ret rfl rfl ?_
      exact kt (by unfold isDi; simp; omega)
abbrev wpk (d : Nat) (m : hc_M) (pc : Nat) (L : List hc_V) (Q : List hc_V → hc_H → Prop) (h : hc_H) : Prop := hc_wp d m pc L [] h Q
set_option maxRecDepth 100000 in
theorem l_so1 {d : Nat} {h0 : hc_H} {Q : List hc_V → hc_H → Prop} {ct i : Int} {n : Nat} {B : Nat → Int} (hn : n ≤ 300) : ∀ (g p : Nat) (b : Int) (h : hc_H), (b + (g : Int) = 300 ∧ 0 ≤ b) → p ≤ n → h.2.2 51 = tko ct (n : Int) (p : Int) → h.2.2 70 = ar 300 B → Fr [51] h0 h → (∀ h2 b2, h2.2.2 51 = tko ct (n : Int) ((rne isBl B n g p : Nat) : Int) → Fr [51] h0 h2 → hc_wp (d + 1) mX6_scanOne 51 [xR 51, xI i, xI b2] [] h2 Q) → True → hc_wp (d + 1) mX6_scanOne 14 [xR 51, xI i, xI b] [] h Q := by
  intro g
  induction g with
  | zero =>
    intro p b h hb hp H51 H70 HF k hT
    refine wp_go rfl rfl ?_
    refine wp_go rfl rfl ?_
    refine e_cge rfl (fun c18 => ?_) (fun c18 => absurd (show (300 : Int) ≤ b by omega) c18)
    exact k h b H51 HF
  | succ g ih =>
    intro p b h hb hp H51 H70 HF k hT
    refine wp_go rfl rfl ?_
    refine wp_go rfl rfl ?_
    refine e_cge rfl (fun c18 => ?_) (fun c18 => ?_)
    · skip
      first | exact absurd c18 (by omega) | (rw [rne, if_neg (by rw [q29]; decide)] at k; exact k h b H51 HF)
    · skip
      refine wp_go rfl rfl ?_
      refine wp_go rfl rfl ?_
      refine e_get rfl H51 rfl rfl ?_
      refine wp_cv rfl rfl rfl H51 rfl rfl rfl ?_
      refine c_byteAt (p := p) H51 H70 hn ?_
      refine wp_call rfl rfl rfl rfl ?_
      refine c_tisBlank  (fun q29 => ?_) (fun q29 => ?_)
      · skip
        refine wp_go rfl rfl ?_
        have hlt0 := tk_lt bl_k q29
        refine wp_go rfl rfl ?_
        refine wp_go rfl rfl ?_
        refine e_get rfl H51 rfl rfl ?_
        refine wp_go rfl rfl ?_
        refine e_iadd rfl (by omega) ?_
        refine e_put (fs' := [xR 52, xR 53, xR 54, xI ct, xR 70, xI (n : Int), xI ((p : Int) + 1)]) rfl H51 rfl rfl ?_
        refine e_inc (L' := [xR 51, xI i, xI (b + 1)]) rfl rfl (by omega) rfl ?_
        refine wp_go rfl rfl ?_
        rw [rne, if_pos q29] at k
        have hlt := tk_lt bl_k q29
        exact ih (p + 1) _ _ (by omega) (by omega) rfl H70 ((HF.wr rfl)) k trivial
      · skip
        refine wp_go rfl rfl ?_
        first | exact absurd c18 (by omega) | (rw [rne, if_neg (by rw [q29]; decide)] at k; exact k h b H51 HF)
set_option maxRecDepth 100000 in
theorem l_tw1 {d : Nat} {h0 : hc_H} {Q : List hc_V → hc_H → Prop} {ct s0 : Int} {n : Nat} {B : Nat → Int} (hn : n ≤ 300) : ∀ (g p : Nat) (b : Int) (h : hc_H), (b + (g : Int) = 300 ∧ 0 ≤ b) → p ≤ n → h.2.2 51 = tko ct (n : Int) (p : Int) → h.2.2 70 = ar 300 B → Fr [51] h0 h → (∀ h2 b2, h2.2.2 51 = tko ct (n : Int) ((rne isLe B n g p : Nat) : Int) → Fr [51] h0 h2 → hc_wp (d + 5) mX6_takeWord 44 [xR 51, xI s0, xI b2] [] h2 Q) → True → hc_wp (d + 5) mX6_takeWord 7 [xR 51, xI s0, xI b] [] h Q := by
  intro g
  induction g with
  | zero =>
    intro p b h hb hp H51 H70 HF k hT
    refine wp_go rfl rfl ?_
    refine wp_go rfl rfl ?_
    refine e_cge rfl (fun c18 => ?_) (fun c18 => absurd (show (300 : Int) ≤ b by omega) c18)
    exact k h b H51 HF
  | succ g ih =>
    intro p b h hb hp H51 H70 HF k hT
    refine wp_go rfl rfl ?_
    refine wp_go rfl rfl ?_
    refine e_cge rfl (fun c11 => ?_) (fun c11 => ?_)
    · skip
      first | exact absurd c11 (by omega) | (rw [rne, if_neg (by rw [q22]; decide)] at k; exact k h b H51 HF)
    · skip
      refine wp_go rfl rfl ?_
      refine wp_go rfl rfl ?_
      refine e_get rfl H51 rfl rfl ?_
      refine wp_cv rfl rfl rfl H51 rfl rfl rfl ?_
      refine c_byteAt (p := p) H51 H70 hn ?_
      refine wp_call rfl rfl rfl rfl ?_
      refine c_tisLetter  (fun q22 => ?_) (fun q22 => ?_)
      · skip
        refine wp_go rfl rfl ?_
        have hlt0 := tk_lt le_k q22
        refine wp_go rfl rfl ?_
        refine wp_go rfl rfl ?_
        refine e_get rfl H51 rfl rfl ?_
        refine wp_go rfl rfl ?_
        refine e_iadd rfl (by omega) ?_
        refine e_put (fs' := [xR 52, xR 53, xR 54, xI ct, xR 70, xI (n : Int), xI ((p : Int) + 1)]) rfl H51 rfl rfl ?_
        refine e_inc (L' := [xR 51, xI s0, xI (b + 1)]) rfl rfl (by omega) rfl ?_
        refine wp_go rfl rfl ?_
        rw [rne, if_pos q22] at k
        have hlt := tk_lt le_k q22
        exact ih (p + 1) _ _ (by omega) (by omega) rfl H70 ((HF.wr rfl)) k trivial
      · skip
        refine wp_go rfl rfl ?_
        first | exact absurd c11 (by omega) | (rw [rne, if_neg (by rw [q22]; decide)] at k; exact k h b H51 HF)
set_option maxRecDepth 100000 in
theorem l_tn {d : Nat} {h0 : hc_H} {Q : List hc_V → hc_H → Prop} {ct : Int} {n : Nat} {B : Nat → Int} (hn : n ≤ 300) : ∀ (g p : Nat) (v b : Int) (h : hc_H), (b + (g : Int) = 300 ∧ 0 ≤ b) → p ≤ n → (0 ≤ v ∧ v ≤ 10000) → h.2.2 51 = tko ct (n : Int) (p : Int) → h.2.2 70 = ar 300 B → Fr [51] h0 h → (∀ h2, h2.2.2 51 = tko ct (n : Int) ((rne isDi B n g p : Nat) : Int) → Fr [51] h0 h2 → Q [xI (dgv B n g p v)] h2) → True → hc_wp (d + 1) mX6_takeNumber 4 [xR 51, xI v, xI b] [] h Q := by
  intro g
  induction g with
  | zero =>
    intro p v b h hb hp hv H51 H70 HF k hT
    refine wp_go rfl rfl ?_
    refine wp_go rfl rfl ?_
    refine e_cge rfl (fun c18 => ?_) (fun c18 => absurd (show (300 : Int) ≤ b by omega) c18)
    refine wp_go rfl rfl ?_
    exact wp_ret rfl rfl (k h H51 HF)
  | succ g ih =>
    intro p v b h hb hp hv H51 H70 HF k hT
    refine wp_go rfl rfl ?_
    refine wp_go rfl rfl ?_
    refine e_cge rfl (fun c8 => ?_) (fun c8 => ?_)
    · skip
      refine wp_go rfl rfl ?_
      refine wp_ret rfl rfl ?_
      first | exact absurd c8 (by omega) | (rw [rne, if_neg (by rw [q19]; decide), dgv, if_neg (by rw [q19]; decide)] at k; exact k h H51 HF)
    · skip
      refine wp_go rfl rfl ?_
      refine wp_go rfl rfl ?_
      refine e_get rfl H51 rfl rfl ?_
      refine wp_cv rfl rfl rfl H51 rfl rfl rfl ?_
      refine c_byteAt (p := p) H51 H70 hn ?_
      refine wp_call rfl rfl rfl rfl ?_
      refine c_tisDigit  (fun q19 => ?_) (fun q19 => ?_)
      · skip
        refine wp_go rfl rfl ?_
        have hlt0 := tk_lt di_k q19
        have hcd : 48 ≤ bt B n p ∧ bt B n p ≤ 57 := of_decide_eq_true q19
        refine wp_go rfl rfl ?_
        refine wp_go rfl rfl ?_
        refine wp_go rfl rfl ?_
        refine e_imul rfl (by omega) ?_
        refine wp_go rfl rfl ?_
        refine wp_go rfl rfl ?_
        refine e_get rfl H51 rfl rfl ?_
        refine wp_cv rfl rfl rfl H51 rfl rfl rfl ?_
        refine c_byteAt (p := p) H51 H70 hn ?_
        refine e_iadd rfl (by omega) ?_
        refine wp_go rfl rfl ?_
        refine e_isub rfl (by omega) ?_
        refine wp_go rfl rfl ?_
        refine e_istn (L' := [xR 51, xI (if (((v * 10) + (bt B n p)) - 48) < 10000 then (((v * 10) + (bt B n p)) - 48) else 10000), xI b]) rfl rfl rfl ?_
        refine wp_go rfl rfl ?_
        refine wp_go rfl rfl ?_
        refine e_get rfl H51 rfl rfl ?_
        refine wp_go rfl rfl ?_
        refine e_iadd rfl (by omega) ?_
        refine e_put (fs' := [xR 52, xR 53, xR 54, xI ct, xR 70, xI (n : Int), xI ((p : Int) + 1)]) rfl H51 rfl rfl ?_
        refine e_inc (L' := [xR 51, xI (if (((v * 10) + (bt B n p)) - 48) < 10000 then (((v * 10) + (bt B n p)) - 48) else 10000), xI (b + 1)]) rfl rfl (by omega) rfl ?_
        refine wp_go rfl rfl ?_
        rw [rne, if_pos q19, dgv, if_pos q19] at k
        have hlt := tk_lt di_k q19
        exact ih (p + 1) _ _ _ (by omega) (by omega) (by split <;> omega) rfl H70 ((HF.wr rfl)) k trivial
      · skip
        refine wp_go rfl rfl ?_
        refine wp_go rfl rfl ?_
        refine wp_ret rfl rfl ?_
        first | exact absurd c8 (by omega) | (rw [rne, if_neg (by rw [q19]; decide), dgv, if_neg (by rw [q19]; decide)] at k; exact k h H51 HF)
set_option maxRecDepth 100000 in
theorem c_takeNumber6 {d : Nat} {h : hc_H} {Q : List hc_V → hc_H → Prop} {ct : Int} {n p : Nat} {B : Nat → Int} (hn : n ≤ 300) (hp : p ≤ n) (H51 : h.2.2 51 = tko ct (n : Int) (p : Int)) (H70 : h.2.2 70 = ar 300 B) (k : ∀ h2, h2.2.2 51 = tko ct (n : Int) ((rne isDi B n 300 p : Nat) : Int) → Fr [51] h h2 → Q [xI (dgv B n 300 p 0)] h2) : hc_wp (d + 1) mX6_takeNumber 0 [xR 51, none, none] [] h Q := by
  refine wp_go rfl rfl ?_
  refine e_istn (L' := [xR 51, xI 0, none]) rfl rfl rfl ?_
  refine wp_go rfl rfl ?_
  refine e_istn (L' := [xR 51, xI 0, xI 0]) rfl rfl rfl ?_
  exact l_tn hn 300 p 0 0 h (by omega) hp (by omega) H51 H70 Fr.rf k trivial
