/-! the class: Town, ninth part: days that fit, weathers, the bell -/
def SN (sn : Nat → Int) : Prop := ∀ j, j < 8 → 0 ≤ sn j ∧ sn j ≤ 720720
def fdh (m0 : Int) (sn : Nat → Int) : Nat → Int
  | 0 => m0
  | n + 1 => sn n
def fdc (fr : Option ef) (m0 : Int) (sn : Nat → Int) (who dy sl w : Int) (n : Nat) : Bool := decide (fdh m0 sn n - rbv fr who (fdh m0 sn n) (dy + (n : Int) + 1) sl w = sn n)
def fdm (fr : Option ef) (m0 : Int) (sn : Nat → Int) (who dy sl w : Int) : Nat → Int
  | 0 => 0
  | n + 1 => if fdc fr m0 sn who dy sl w n = true then hc_or (fdm fr m0 sn who dy sl w n) (hc_shl 1 (n : Int)) else fdm fr m0 sn who dy sl w n
theorem fdh_bd {m0 : Int} {sn : Nat → Int} (h0 : 0 ≤ m0 ∧ m0 ≤ 720720) (hs : SN sn) : ∀ n : Nat, n ≤ 8 → 0 ≤ fdh m0 sn n ∧ fdh m0 sn n ≤ 720720
  | 0, _ => h0
  | n + 1, h => hs n (by omega)
set_option maxRecDepth 100000 in
theorem l_fd {d : Nat} {h0 : hc_H} {Q : List hc_V → hc_H → Prop} {nf : Nat} {dy rn x wt tc ru sc : Int} {mk sl : Nat → Int} {tx : Nat → Option Nat} {q : Option Nat} {ft fr : Option ef} {nc : Nat} {rows : Nat → Int} {who w : Int} {sn : Nat → Int} (hnf : nf ≤ 8) (hmk : ∀ j, j < 8 → 0 ≤ mk j ∧ mk j ≤ 720720) (hsl : SL sl) (hsn : SN sn) (hdy : 0 ≤ dy ∧ dy ≤ 999) (hsc : 0 ≤ sc ∧ sc ≤ 8) (hw : w = 0 ∨ w = 1) (hwho : 0 ≤ who ∧ who < (nf : Int)) (k : ∀ h2, TQ h2 (nf : Int) dy rn x wt tc ru sc mk sl tx → h2.2.2 36 = ar 8 sn → TXQ h2 q ft fr nc rows → Fr [24, 25, 26] h0 h2 → Q [xI (fdm fr (mk (Int.toNat who)) sn who dy (sl (Int.toNat who)) w (Int.toNat sc))] h2) : ∀ (n j : Nat) (mm has i : Int) (h : hc_H), i = (j : Int) → mm = fdm fr (mk (Int.toNat who)) sn who dy (sl (Int.toNat who)) w j → has = fdh (mk (Int.toNat who)) sn j → j ≤ Int.toNat sc → Int.toNat sc < j + n → TQ h (nf : Int) dy rn x wt tc ru sc mk sl tx → h.2.2 36 = ar 8 sn → TXQ h q ft fr nc rows → Fr [24, 25, 26] h0 h → True → hc_wp (d + 4) mX7_fittingDays 33 [xR 23, xI who, xI w, xI mm, xI has, xQ q, xI i] [] h Q := by
  intro n
  induction n with
  | zero =>
    intro j mm has i h e hmm hh hle hn
    exact absurd hn (by omega)
  | succ n ih =>
    intro j mm has i h e hmm hh hle hn H H36 HT HF hn2
    refine wp_go rfl rfl ?_
    refine wp_go rfl rfl ?_
    refine e_get rfl H.1 rfl rfl ?_
    refine e_cge rfl (fun c39 => ?_) (fun c39 => ?_)
    · skip
      refine wp_go rfl rfl ?_
      refine wp_ret rfl rfl ?_
      rw [hmm, show j = Int.toNat sc by omega]
      exact k h H H36 HT HF
    · skip
      refine wp_go rfl rfl ?_
      refine wp_go rfl rfl ?_
      refine e_cge rfl (fun c46 => ?_) (fun c46 => ?_)
      · skip
        refine wp_go rfl rfl ?_
        refine wp_ret rfl rfl ?_
        rw [hmm, show j = Int.toNat sc by omega]
        exact k h H H36 HT HF
      · skip
        have hhb := fdh_bd (hmk (Int.toNat who) (by omega)) hsn j (by omega)
        rw [← hh] at hhb
        refine wp_go rfl rfl ?_
        refine wp_go rfl rfl ?_
        refine wp_go rfl rfl ?_
        refine wp_go rfl rfl ?_
        refine wp_go rfl rfl ?_
        refine wp_go rfl rfl ?_
        refine e_get rfl H.1 rfl rfl ?_
        refine wp_go rfl rfl ?_
        refine e_iadd rfl (by omega) ?_
        refine wp_go rfl rfl ?_
        refine e_iadd rfl (by omega) ?_
        refine wp_go rfl rfl ?_
        refine wp_cv rfl rfl rfl H.1 rfl rfl rfl ?_
        refine c_rubs H.1 H.2.2.1 H.2.2.2.2 HT (by omega) hsl (by omega) (by omega) hw (fun h2 W2 F2 => ?_)
        have A := H.fr F2 W2
        have A36 := (F2.2.2 36 rfl).trans H36
        obtain ⟨rv, hrv⟩ : ∃ z : Int, z = rbv fr who has (dy + i + 1) (sl (Int.toNat who)) w := ⟨_, rfl⟩
        rw [← hrv]
        have hrb := rbv_bd (fr := fr) (who := who) (has := has) (day := dy + i + 1) (sl := sl (Int.toNat who)) (wet := w) (by omega)
        rw [← hrv] at hrb
        have hcc : (has - rv = sn (Int.toNat i)) ↔ fdc fr (mk (Int.toNat who)) sn who dy (sl (Int.toNat who)) w j = true := by
          unfold fdc
          rw [decide_eq_true_eq, ← hh, hrv, e, Int.toNat_natCast]
        refine e_isub rfl (by omega) ?_
        refine wp_go rfl rfl ?_
        refine e_get rfl A.1 rfl rfl ?_
        refine wp_go rfl rfl ?_
        refine e_ald rfl A36 rfl (by omega) ?_
        refine e_cne rfl (fun c78 => ?_) (fun c78 => ?_)
        · skip
          refine wp_go rfl rfl ?_
          refine e_get rfl A.1 rfl rfl ?_
          refine wp_go rfl rfl ?_
          refine e_ald rfl A36 rfl (by omega) ?_
          refine e_ist (L' := [xR 23, xI who, xI w, xI mm, xI (sn (Int.toNat i)), xQ q, xI i]) rfl rfl rfl ?_
          refine e_inc (L' := [xR 23, xI who, xI w, xI mm, xI (sn (Int.toNat i)), xQ q, xI (i + 1)]) rfl rfl (by omega) rfl ?_
          refine wp_go rfl rfl ?_
          refine ih (j + 1) _ _ _ h2 (by omega) ?_ ?_ (by omega) (by omega) A A36 (HT.kept (F2.big rfl)) (HF.tr F2 (fun _ z => z)) hn2
          · simp only [fdm]
            rw [if_neg (fun z => absurd (hcc.2 z) (by omega)), hmm]
          · show sn (Int.toNat i) = sn j
            rw [e, Int.toNat_natCast]
        · skip
          refine wp_go rfl rfl ?_
          refine wp_go rfl rfl ?_
          refine wp_go rfl rfl ?_
          refine wp_go rfl rfl ?_
          refine wp_go rfl rfl ?_
          refine e_istn (L' := [xR 23, xI who, xI w, xI (hc_or mm (hc_shl 1 i)), xI has, xQ q, xI i]) rfl rfl rfl ?_
          refine wp_go rfl rfl ?_
          refine e_get rfl A.1 rfl rfl ?_
          refine wp_go rfl rfl ?_
          refine e_ald rfl A36 rfl (by omega) ?_
          refine e_ist (L' := [xR 23, xI who, xI w, xI (hc_or mm (hc_shl 1 i)), xI (sn (Int.toNat i)), xQ q, xI i]) rfl rfl rfl ?_
          refine e_inc (L' := [xR 23, xI who, xI w, xI (hc_or mm (hc_shl 1 i)), xI (sn (Int.toNat i)), xQ q, xI (i + 1)]) rfl rfl (by omega) rfl ?_
          refine wp_go rfl rfl ?_
          refine ih (j + 1) _ _ _ h2 (by omega) ?_ ?_ (by omega) (by omega) A A36 (HT.kept (F2.big rfl)) (HF.tr F2 (fun _ z => z)) hn2
          · simp only [fdm]
            rw [if_pos (hcc.1 (by omega)), hmm, e]
          · show sn (Int.toNat i) = sn j
            rw [e, Int.toNat_natCast]
set_option maxRecDepth 100000 in
theorem c_fittingDays {d : Nat} {h : hc_H} {Q : List hc_V → hc_H → Prop} {nf : Nat} {dy rn x wt tc ru sc : Int} {mk sl : Nat → Int} {tx : Nat → Option Nat} {q : Option Nat} {ft fr : Option ef} {nc : Nat} {rows : Nat → Int} {who w : Int} {sn : Nat → Int} (hnf : nf ≤ 8) (hmk : ∀ j, j < 8 → 0 ≤ mk j ∧ mk j ≤ 720720) (hsl : SL sl) (hsn : SN sn) (hdy : 0 ≤ dy ∧ dy ≤ 999) (hsc : 0 ≤ sc ∧ sc ≤ 8) (hw : w = 0 ∨ w = 1) (hwho : 0 ≤ who ∧ who < (nf : Int)) (H : TQ h (nf : Int) dy rn x wt tc ru sc mk sl tx) (H36 : h.2.2 36 = ar 8 sn) (hq : rul tx tc ru = q) (HT : TXQ h q ft fr nc rows) (k : ∀ h2, TQ h2 (nf : Int) dy rn x wt tc ru sc mk sl tx → h2.2.2 36 = ar 8 sn → TXQ h2 q ft fr nc rows → Fr [24, 25, 26] h h2 → Q [xI (fdm fr (mk (Int.toNat who)) sn who dy (sl (Int.toNat who)) w (Int.toNat sc))] h2) : hc_wp (d + 4) mX7_fittingDays 0 [xR 23, xI who, xI w, none, none, none, none] [] h Q := by
  refine wp_go rfl rfl ?_
  refine wp_go rfl rfl ?_
  refine wp_cv rfl rfl rfl H.1 rfl rfl rfl ?_
  refine c_isFolk H.1 (fun q2 => ?_) (fun q2 => ?_)
  · skip
    refine wp_go rfl rfl ?_
    refine wp_go rfl rfl ?_
    refine e_istn (L' := [xR 23, xI who, xI w, xI 0, none, none, none]) rfl rfl rfl ?_
    refine wp_go rfl rfl ?_
    refine e_get rfl H.1 rfl rfl ?_
    refine wp_go rfl rfl ?_
    refine e_ald rfl H.2.1 rfl (by omega) ?_
    refine e_ist (L' := [xR 23, xI who, xI w, xI 0, xI (mk (Int.toNat who)), none, none]) rfl rfl rfl ?_
    refine wp_go rfl rfl ?_
    refine wp_go rfl rfl ?_
    refine e_get rfl H.1 rfl rfl ?_
    refine wp_cv rfl rfl rfl H.1 rfl rfl rfl ?_
    refine c_textAt2 H.1 H.2.2.2.1 hq ?_
    refine e_ast (L' := [xR 23, xI who, xI w, xI 0, xI (mk (Int.toNat who)), xQ q, none]) rfl rfl rfl ?_
    refine wp_go rfl rfl ?_
    refine e_ist (L' := [xR 23, xI who, xI w, xI 0, xI (mk (Int.toNat who)), xQ q, xI 0]) rfl rfl rfl ?_
    exact l_fd hnf hmk hsl hsn hdy hsc hw (by omega) k (Int.toNat sc + 1) 0 _ _ _ h rfl rfl rfl (by omega) (by omega) H H36 HT Fr.rf trivial
  · skip
    refine wp_go rfl rfl ?_
    refine wp_go rfl rfl ?_
    refine wp_ret rfl rfl ?_
    exact absurd hwho (by omega)
def wsr (f : Nat → Bool) (k : Int) : Nat → Nat → Int → Int
  | 0, _, c => if k = -1 then c else -1
  | n + 1, v, c => if f v = true then (if c = k then (v : Int) else wsr f k n (v + 1) (c + 1)) else wsr f k n (v + 1) c
def fit (dr we : Int) (top v : Nat) : Bool := decide (hc_and (v : Int) (hc_xor we (-1)) = 0) && decide (hc_and ((top : Int) - 1 - (v : Int)) (hc_xor dr (-1)) = 0)
theorem shl1 : ∀ n : Nat, n ≤ 8 → hc_shl 1 (n : Int) = ((2 ^ n : Nat) : Int) := by
  intro n hn
  match n, hn with
  | 0, _ => decide +kernel
  | 1, _ => decide +kernel
  | 2, _ => decide +kernel
  | 3, _ => decide +kernel
  | 4, _ => decide +kernel
  | 5, _ => decide +kernel
  | 6, _ => decide +kernel
  | 7, _ => decide +kernel
  | 8, _ => decide +kernel
  | n + 9, h => exact absurd h (by omega)
theorem pow8 {n : Nat} (h : n ≤ 8) : 2 ^ n ≤ 256 := Nat.pow_le_pow_right (by omega) h
set_option maxRecDepth 100000 in
theorem l_we {d : Nat} {h : hc_H} {Q : List hc_V → hc_H → Prop} {who k0 dr we : Int} {tp : Nat} (htp : tp ≤ 256)  : ∀ (n p : Nat) (c v : Int) (l8 : hc_V), v = (p : Int) → p + n = tp → (0 ≤ c ∧ c ≤ (p : Int)) → Q [xI (wsr (fit dr we tp) k0 n p c)] h → hc_wp d mX7_weathers 34 [xR 23, xI who, xI k0, xI dr, xI we, xI ((tp : Nat) : Int), xI c, xI v, l8] [] h Q := by
  intro n
  induction n with
  | zero =>
    intro p c v l8 e hn hc K
    refine wp_go rfl rfl ?_
    refine wp_go rfl rfl ?_
    refine e_cge rfl (fun c38 => ?_) (fun c38 => absurd c38 (by omega))
    refine wp_go rfl rfl ?_
    refine wp_go rfl rfl ?_
    refine e_cne rfl (fun c89 => ?_) (fun c89 => ?_)
    · skip
      refine wp_go rfl rfl ?_
      refine wp_ret rfl rfl ?_
      rw [wsr, if_neg (by omega)] at K
      exact K
    · skip
      refine wp_go rfl rfl ?_
      refine wp_go rfl rfl ?_
      refine wp_ret rfl rfl ?_
      rw [wsr, if_pos (by omega)] at K
      exact K
  | succ n ih =>
    intro p c v l8 e hn hc K
    refine wp_go rfl rfl ?_
    refine wp_go rfl rfl ?_
    refine e_cge rfl (fun c38 => ?_) (fun c38 => ?_)
    · skip
      exact absurd c38 (by omega)
    · skip
      refine wp_go rfl rfl ?_
      refine wp_go rfl rfl ?_
      refine e_isub rfl (by omega) ?_
      refine wp_go rfl rfl ?_
      refine e_isub rfl (by omega) ?_
      refine e_ist (L' := [xR 23, xI who, xI k0, xI dr, xI we, xI ((tp : Nat) : Int), xI c, xI v, xI ((((tp : Nat) : Int) - 1) - v)]) rfl rfl rfl ?_
      refine wp_go rfl rfl ?_
      refine wp_go rfl rfl ?_
      refine wp_go rfl rfl ?_
      refine wp_go rfl rfl ?_
      refine wp_go rfl rfl ?_
      refine e_ifne rfl (fun c57 => ?_) (fun c57 => ?_)
      · skip
        refine e_inc (L' := [xR 23, xI who, xI k0, xI dr, xI we, xI ((tp : Nat) : Int), xI c, xI (v + 1), xI ((((tp : Nat) : Int) - 1) - v)]) rfl rfl (by omega) rfl ?_
        refine wp_go rfl rfl ?_
        simp only [wsr] at K
        have hf : ¬ fit dr we tp p = true := by
          intro z
          unfold fit at z
          rw [Bool.and_eq_true, decide_eq_true_eq, decide_eq_true_eq, ← e] at z
          omega
        rw [if_neg hf] at K
        exact ih (p + 1) _ _ _ (by omega) (by omega) (by omega) K
      · skip
        refine wp_go rfl rfl ?_
        refine wp_go rfl rfl ?_
        refine wp_go rfl rfl ?_
        refine wp_go rfl rfl ?_
        refine wp_go rfl rfl ?_
        refine e_ifne rfl (fun c66 => ?_) (fun c66 => ?_)
        · skip
          refine e_inc (L' := [xR 23, xI who, xI k0, xI dr, xI we, xI ((tp : Nat) : Int), xI c, xI (v + 1), xI ((((tp : Nat) : Int) - 1) - v)]) rfl rfl (by omega) rfl ?_
          refine wp_go rfl rfl ?_
          simp only [wsr] at K
          have hf : ¬ fit dr we tp p = true := by
            intro z
            unfold fit at z
            rw [Bool.and_eq_true, decide_eq_true_eq, decide_eq_true_eq, ← e] at z
            omega
          rw [if_neg hf] at K
          exact ih (p + 1) _ _ _ (by omega) (by omega) (by omega) K
        · skip
          refine wp_go rfl rfl ?_
          refine wp_go rfl rfl ?_
          refine e_cne rfl (fun c72 => ?_) (fun c72 => ?_)
          · skip
            refine e_inc (L' := [xR 23, xI who, xI k0, xI dr, xI we, xI ((tp : Nat) : Int), xI (c + 1), xI v, xI ((((tp : Nat) : Int) - 1) - v)]) rfl rfl (by omega) rfl ?_
            refine e_inc (L' := [xR 23, xI who, xI k0, xI dr, xI we, xI ((tp : Nat) : Int), xI (c + 1), xI (v + 1), xI ((((tp : Nat) : Int) - 1) - v)]) rfl rfl (by omega) rfl ?_
            refine wp_go rfl rfl ?_
            simp only [wsr] at K
            have hf : fit dr we tp p = true := by
              unfold fit
              rw [decide_eq_true (by rw [← e]; omega), decide_eq_true (by rw [← e]; omega)]
              rfl
            rw [if_pos hf, if_neg (by omega)] at K
            exact ih (p + 1) _ _ _ (by omega) (by omega) (by omega) K
          · skip
            refine wp_go rfl rfl ?_
            refine wp_ret rfl rfl ?_
            have hf : fit dr we tp p = true := by
              unfold fit
              rw [decide_eq_true (by rw [← e]; omega), decide_eq_true (by rw [← e]; omega)]
              rfl
            simp only [wsr] at K
            rw [if_pos hf, if_pos (by omega)] at K
            rw [e]
            exact K
set_option maxRecDepth 100000 in
theorem c_weathers {d : Nat} {h : hc_H} {Q : List hc_V → hc_H → Prop} {nf : Nat} {dy rn x wt tc ru sc : Int} {mk sl : Nat → Int} {tx : Nat → Option Nat} {q : Option Nat} {ft fr : Option ef} {nc : Nat} {rows : Nat → Int} {who k0 : Int} {sn : Nat → Int} (hnf : nf ≤ 8) (hmk : ∀ j, j < 8 → 0 ≤ mk j ∧ mk j ≤ 720720) (hsl : SL sl) (hsn : SN sn) (hdy : 0 ≤ dy ∧ dy ≤ 999) (hsc : 0 ≤ sc ∧ sc ≤ 8) (hwho : 0 ≤ who ∧ who < (nf : Int)) (H : TQ h (nf : Int) dy rn x wt tc ru sc mk sl tx) (H36 : h.2.2 36 = ar 8 sn) (hq : rul tx tc ru = q) (HT : TXQ h q ft fr nc rows) (k : ∀ h2, TQ h2 (nf : Int) dy rn x wt tc ru sc mk sl tx → h2.2.2 36 = ar 8 sn → TXQ h2 q ft fr nc rows → Fr [24, 25, 26] h h2 → Q [xI (wsr (fit (fdm fr (mk (Int.toNat who)) sn who dy (sl (Int.toNat who)) 0 (Int.toNat sc)) (fdm fr (mk (Int.toNat who)) sn who dy (sl (Int.toNat who)) 1 (Int.toNat sc)) (2 ^ Int.toNat sc)) k0 (2 ^ Int.toNat sc) 0 0)] h2) : hc_wp (d + 5) mX7_weathers 0 [xR 23, xI who, xI k0, none, none, none, none, none, none] [] h Q := by
  refine wp_go rfl rfl ?_
  refine wp_go rfl rfl ?_
  refine wp_go rfl rfl ?_
  refine wp_cv rfl rfl rfl H.1 rfl rfl rfl ?_
  refine c_fittingDays hnf hmk hsl hsn hdy hsc (by omega) hwho H H36 hq HT (fun g0 A0 B0 C0 E0 => ?_)
  obtain ⟨dr, hdr⟩ : ∃ z : Int, z = fdm fr (mk (Int.toNat who)) sn who dy (sl (Int.toNat who)) 0 (Int.toNat sc) := ⟨_, rfl⟩
  rw [← hdr]
  refine e_istn (L' := [xR 23, xI who, xI k0, xI dr, none, none, none, none, none]) rfl rfl rfl ?_
  refine wp_go rfl rfl ?_
  refine wp_go rfl rfl ?_
  refine wp_go rfl rfl ?_
  refine wp_cv rfl rfl rfl A0.1 rfl rfl rfl ?_
  refine c_fittingDays hnf hmk hsl hsn hdy hsc (by omega) hwho A0 B0 hq C0 (fun g1 A1 B1 C1 E1 => ?_)
  obtain ⟨we, hwe⟩ : ∃ z : Int, z = fdm fr (mk (Int.toNat who)) sn who dy (sl (Int.toNat who)) 1 (Int.toNat sc) := ⟨_, rfl⟩
  rw [← hwe]
  refine e_ist (L' := [xR 23, xI who, xI k0, xI dr, xI we, none, none, none, none]) rfl rfl rfl ?_
  refine wp_go rfl rfl ?_
  refine wp_go rfl rfl ?_
  refine e_get rfl A1.1 rfl rfl ?_
  refine wp_go rfl rfl ?_
  refine wp_go rfl rfl ?_
  refine wp_go rfl rfl ?_
  show hc_wp (d + 4 + 1) mX7_weathers 26 [xR 23, xI who, xI k0, xI dr, xI we, none, none, none, none] [xI (hc_shl 1 (if 8 < sc then (8 : Int) else sc))] g1 Q
  rw [show (if 8 < sc then (8 : Int) else sc) = ((Int.toNat sc : Nat) : Int) by rw [if_neg (by omega)]; omega, shl1 _ (by omega)]
  refine e_ist (L' := [xR 23, xI who, xI k0, xI dr, xI we, xI ((2 ^ Int.toNat sc : Nat) : Int), none, none, none]) rfl rfl rfl ?_
  refine wp_go rfl rfl ?_
  refine e_ist (L' := [xR 23, xI who, xI k0, xI dr, xI we, xI ((2 ^ Int.toNat sc : Nat) : Int), xI 0, none, none]) rfl rfl rfl ?_
  refine wp_go rfl rfl ?_
  refine e_ist (L' := [xR 23, xI who, xI k0, xI dr, xI we, xI ((2 ^ Int.toNat sc : Nat) : Int), xI 0, xI 0, none]) rfl rfl rfl ?_
  refine l_we (pow8 (by omega)) (2 ^ Int.toNat sc) 0 0 0 _ rfl (by omega) (by omega) ?_
  rw [hdr, hwe]
  exact k g1 A1 B1 C1 (E0.tr E1 (fun _ z => z))
def blf (n : Int) (mk : Nat → Int) (S : Int) : Nat → Int
  | 0 => n
  | j + 1 => blf n mk S j - n * mk j / S
def blb (n : Int) (mk : Nat → Int) (S who : Int) (j : Nat) : Bool := decide (n * mk (Int.toNat who) % S < n * mk j % S ∨ (n * mk j % S = n * mk (Int.toNat who) % S ∧ (j : Int) < who))
def blr (n : Int) (mk : Nat → Int) (S who : Int) : Nat → Int
  | 0 => 0
  | j + 1 => if blb n mk S who j = true then blr n mk S who j + 1 else blr n mk S who j
theorem blr_bd {n : Int} {mk : Nat → Int} {S who : Int} : ∀ j : Nat, 0 ≤ blr n mk S who j ∧ blr n mk S who j ≤ (j : Int) := by
  intro j
  induction j with
  | zero => exact ⟨Int.le_refl _, Int.le_refl _⟩
  | succ j ih =>
    simp only [blr]
    split <;> omega
theorem be_ar {n m S : Int} (hn : 1 ≤ n ∧ n ≤ 720720) (hm : 0 ≤ m ∧ m ≤ 720720) (hS : 1 ≤ S) (hmS : m ≤ S) : (0 ≤ n * m ∧ n * m ≤ 519437318400) ∧ Int.tdiv (n * m) S = n * m / S ∧ (0 ≤ n * m / S ∧ n * m / S ≤ 720720) ∧ Int.tmod (n * m) S = n * m % S ∧ (0 ≤ n * m % S ∧ n * m % S < S) := by
  have a : 0 ≤ n * m := Int.mul_nonneg (by omega) hm.1
  have b : n * m ≤ 720720 * 720720 := Int.mul_le_mul hn.2 hm.2 hm.1 (by omega)
  have c : n * m ≤ n * S := Int.mul_le_mul_of_nonneg_left hmS (by omega)
  have e : n * m / S ≤ n := by
    have e1 := Int.ediv_le_ediv (a := n * m) (b := n * S) (c := S) (by omega) c
    rw [Int.mul_ediv_cancel n (by omega)] at e1
    exact e1
  exact ⟨⟨a, by omega⟩, Int.tdiv_eq_ediv_of_nonneg a, ⟨Int.ediv_nonneg a (by omega), by omega⟩, Int.tmod_eq_emod_of_nonneg a, Int.emod_nonneg _ (by omega), Int.emod_lt_of_pos _ (by omega)⟩
theorem cmp3_gt {x y : Int} : 0 < hc_cmp3 x y ↔ y < x := by
  unfold hc_cmp3
  split
  · omega
  · split <;> omega
theorem cmp3_ne {x y : Int} : hc_cmp3 x y ≠ 0 ↔ x ≠ y := by
  unfold hc_cmp3
  split
  · omega
  · split <;> omega
theorem cmp3_ge {x y : Int} : 0 ≤ hc_cmp3 x y ↔ y ≤ x := by
  unfold hc_cmp3
  split
  · omega
  · split <;> omega
