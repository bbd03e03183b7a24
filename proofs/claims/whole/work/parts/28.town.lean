/-! the class: Town, sixth part: days, grants, payments -/
def dysS (fr : Option ef) (s : cT) : Nat → cT
  | 0 => s
  | n + 1 => dayS fr (dysS fr s n)
theorem dys_kept {fr : Option ef} {s : cT} : ∀ n : Nat, (dysS fr s n).nf = s.nf ∧ (dysS fr s n).dy = s.dy + (n : Int) ∧ (dysS fr s n).tx = s.tx ∧ (dysS fr s n).tc = s.tc ∧ (dysS fr s n).ru = s.ru := by
  intro n
  induction n with
  | zero => exact ⟨rfl, (Int.add_zero _).symm, rfl, rfl, rfl⟩
  | succ n ih =>
    obtain ⟨a, b, c, d, e⟩ := ih
    refine ⟨a, ?_, c, d, e⟩
    show (dysS fr s n).dy + 1 = s.dy + ((n + 1 : Nat) : Int)
    rw [b]
    omega
theorem dys_ok {fr : Option ef} {s : cT} (H : cOK s) : ∀ n : Nat, s.dy + (n : Int) ≤ 999 → cOK (dysS fr s n) := by
  intro n
  induction n with
  | zero => intro _; exact H
  | succ n ih =>
    intro hn
    refine (ih (by omega)).day ?_
    have := (dys_kept (fr := fr) (s := s) n).2.1
    omega
theorem smk_ge {mk : Nat → Int} : ∀ n : Nat, (∀ j, j < n → 0 ≤ mk j) → 0 ≤ smk mk n ∧ ∀ j, j < n → mk j ≤ smk mk n := by
  intro n
  induction n with
  | zero => intro _; exact ⟨Int.le_refl _, fun j hj => absurd hj (by omega)⟩
  | succ n ih =>
    intro h
    obtain ⟨a, b⟩ := ih (fun j hj => h j (by omega))
    have c := h n (by omega)
    simp only [smk]
    refine ⟨by omega, fun j hj => ?_⟩
    by_cases e : j = n
    · subst e
      omega
    · have := b j (by omega)
      omega
theorem smk_u {mk : Nat → Int} {i : Nat} {v : Int} : ∀ n : Nat, smk (hc_u mk i v) n = smk mk n + (if i < n then v - mk i else 0) := by
  intro n
  induction n with
  | zero => simp [smk]
  | succ n ih =>
    simp only [smk]
    rw [ih]
    unfold hc_u
    by_cases e : n = i
    · subst e
      rw [if_pos rfl, if_neg (by omega), if_pos (by omega)]
      omega
    · rw [if_neg e]
      by_cases h : i < n
      · rw [if_pos h, if_pos (by omega)]
        omega
      · rw [if_neg h, if_neg (by omega)]
        omega
theorem smk_z {mk : Nat → Int} {nf : Nat} : ∀ n : Nat, nf ≤ n → (∀ j, nf ≤ j → j < n → mk j = 0) → smk mk n = smk mk nf := by
  intro n
  induction n with
  | zero =>
    intro h _
    rw [show nf = 0 by omega]
  | succ n ih =>
    intro h hz
    by_cases e : nf = n + 1
    · rw [e]
    · have a := ih (by omega) (fun j h1 h2 => hz j h1 (by omega))
      have b := hz n (by omega) (by omega)
      simp only [smk]
      omega
theorem MK.mk' {nf : Nat} {mk : Nat → Int} (h1 : ∀ j, j < 8 → 0 ≤ mk j) (h2 : ∀ j, nf ≤ j → j < 8 → mk j = 0) (h3 : smk mk 8 ≤ 720720) : MK nf mk := by
  refine ⟨fun j hj => ⟨h1 j hj, ?_⟩, h2, h3⟩
  have := (smk_ge 8 h1).2 j hj
  omega
theorem MK.nf8 {nf : Nat} {mk : Nat → Int} (hn : nf ≤ 8) (H : MK nf mk) : smk mk nf = smk mk 8 := (smk_z 8 hn H.2.1).symm
def kepS (s : cT) (mk : Nat → Int) : cT := (s.nf, s.dy, s.rn, s.x, s.wt, s.tc, s.ru, s.sc, mk, s.sl, s.tx, kfs s.fs s.ct, kct s.ct, krw s.fs s.ct s.mk s.rs s.dy s.x s.wt)
theorem cOK.kep {s : cT} {mk : Nat → Int} (H : cOK s) (hm : MK s.nf mk) : cOK (kepS s mk) := by
  obtain ⟨h1, h2, h3, h4, h5, h6, h7, h8⟩ := H
  exact ⟨h1, hm, h3, h4, h5, h6, h7, h8.keep⟩
theorem MK.add {nf : Nat} {mk : Nat → Int} {w : Nat} {v : Int} (H : MK nf mk) (hn : nf ≤ 8) (hw : w < nf) (hv : 0 ≤ v) (hb : v ≤ 720720 - smk mk nf) : MK nf (hc_u mk w (mk w + v)) := by
  have e8 := H.nf8 hn
  obtain ⟨h1, h2, h3⟩ := H
  refine MK.mk' (fun j hj => ?_) (fun j hj1 hj2 => ?_) ?_
  · have a := h1 j hj
    have b := h1 w (by omega)
    unfold hc_u
    split <;> omega
  · unfold hc_u
    rw [if_neg (by omega)]
    exact h2 j hj1 hj2
  · rw [smk_u, if_pos (by omega)]
    omega
theorem tlv_bd {ft : Option ef} {who has day paid rest : Int} (h : paid ≤ has) : 0 ≤ tlv ft who has day paid rest ∧ tlv ft who has day paid rest ≤ has - paid := by
  match ft with
  | none =>
    simp only [tlv]
    split <;> omega
  | some G => exact cut0_bd (by omega)
theorem MK.move {nf : Nat} {mk : Nat → Int} {a b : Nat} {p t : Int} (H : MK nf mk) (hn : nf ≤ 8) (ha : a < nf) (hb : b < nf) (hab : a ≠ b) (hp : 0 ≤ p) (ht : 0 ≤ t) (hpt : p + t ≤ mk a) : MK nf (hc_u (hc_u mk a (mk a - (p + t))) b (hc_u mk a (mk a - (p + t)) b + p)) := by
  obtain ⟨h1, h2, h3⟩ := H
  have eb : hc_u mk a (mk a - (p + t)) b = mk b := by
    unfold hc_u
    rw [if_neg (by omega)]
  rw [eb]
  refine MK.mk' (fun j hj => ?_) (fun j hj1 hj2 => ?_) ?_
  · have x1 := h1 j hj
    have x2 := h1 b (by omega)
    unfold hc_u
    split
    · omega
    · split <;> omega
  · unfold hc_u
    rw [if_neg (by omega), if_neg (by omega)]
    exact h2 j hj1 hj2
  · rw [smk_u, if_pos (by omega), eb, smk_u, if_pos (by omega)]
    omega
theorem ho_ar {m p q : Int} (hm : 0 ≤ m ∧ m ≤ 720720) (hp : 1 ≤ p) (hq : p ≤ q) (h9 : q ≤ 99) : (0 ≤ m * p ∧ m * p ≤ 71351280) ∧ (Int.tdiv (m * p) q = m * p / q) ∧ (0 ≤ m * p / q ∧ m * p / q ≤ m) ∧ (Int.tmod (m * p) q = m * p % q) ∧ 0 ≤ m * p % q ∧ m * p % q < 99 := by
  have a : 0 ≤ m * p := Int.mul_nonneg hm.1 (by omega)
  have b : m * p ≤ 720720 * 99 := Int.mul_le_mul hm.2 (by omega) (by omega) (by omega)
  have c : m * p ≤ m * q := Int.mul_le_mul_of_nonneg_left hq hm.1
  have e : m * p / q ≤ m := by
    have e1 := Int.ediv_le_ediv (a := m * p) (b := m * q) (c := q) (by omega) c
    rw [Int.mul_ediv_cancel m (by omega)] at e1
    exact e1
  have f := Int.emod_lt_of_pos (m * p) (b := q) (by omega)
  exact ⟨⟨a, by omega⟩, Int.tdiv_eq_ediv_of_nonneg a, ⟨Int.ediv_nonneg a (by omega), e⟩, Int.tmod_eq_emod_of_nonneg a, Int.emod_nonneg _ (by omega), by omega⟩
set_option maxRecDepth 100000 in
theorem l_days {d : Nat} {h0 : hc_H} {Q : List hc_V → hc_H → Prop} {s : cT} {q : Option Nat} {ft fr : Option ef} {nc : Nat} {rows : Nat → Int} {n b0 : Int} (hs : cOK s) (hq : rul s.tx s.tc s.ru = q) (hn : 1 ≤ n ∧ n ≤ 99) (hd : s.dy + n ≤ 999) (hb0 : 0 ≤ b0 + 6000000 ∧ b0 ≤ 720720) (k : ∀ h2, TH h2 (dysS fr s (Int.toNat n)) → Fr fl7 h0 h2 → Q [xI (720720 - smk (dysS fr s (Int.toNat n)).mk (dysS fr s (Int.toNat n)).nf - b0)] h2) : ∀ (m j : Nat) (i : Int) (h : hc_H), i = (j : Int) → (j : Int) ≤ n → n < (j : Int) + (m : Int) → TH h (dysS fr s j) → TXQ h q ft fr nc rows → Fr fl7 h0 h → True → hc_wp (d + 5) mX7_letGoBy 32 [xR 23, xI n, xI b0, xI i] [] h Q := by
  intro m
  induction m with
  | zero =>
    intro j i h e hle hn
    exact absurd hn (by omega)
  | succ m ih =>
    intro j i h e hle hlt G HT HF hn2
    refine wp_go rfl rfl ?_
    refine wp_go rfl rfl ?_
    refine e_cge rfl (fun c34 => ?_) (fun c34 => ?_)
    · skip
      refine wp_go rfl rfl ?_
      refine wp_cv rfl rfl rfl G.1 rfl rfl rfl ?_
      have hoj := dys_ok (fr := fr) hs j (by omega)
      have hsm := smk_bd (dysS fr s j).nf (fun p hp => hoj.2.1.1 p (by have := hoj.1; omega))
      refine c_box G.1 G.2.1 hoj.1 hoj.2.1.1 ?_
      refine wp_go rfl rfl ?_
      refine e_isub rfl (by have := hoj.1; omega) ?_
      refine wp_ret rfl rfl ?_
      have ej : j = Int.toNat n := by omega
      subst ej
      exact k h G HF
    · skip
      refine wp_go rfl rfl ?_
      refine wp_cv rfl rfl rfl G.1 rfl rfl rfl ?_
      have hkj := dys_kept (fr := fr) (s := s) j
      have hoj := dys_ok (fr := fr) hs j (by omega)
      refine c_oneDay G hoj (by omega) (by rw [hkj.2.2.1, hkj.2.2.2.1, hkj.2.2.2.2]; exact hq) HT (fun h2 G2 F2 => ?_)
      skip
      refine e_inc (L' := [xR 23, xI n, xI b0, xI (i + 1)]) rfl rfl (by omega) rfl ?_
      refine wp_go rfl rfl ?_
      exact ih (j + 1) _ h2 (by omega) (by omega) (by omega) G2 (HT.kept (F2.big rfl)) (HF.tr F2 (fun _ z => z)) hn2
set_option maxRecDepth 100000 in
theorem c_letGoBy {d : Nat} {h : hc_H} {Q : List hc_V → hc_H → Prop} {s : cT} {q : Option Nat} {ft fr : Option ef} {nc : Nat} {rows : Nat → Int} {n : Int} (H : TH h s) (hs : cOK s) (hq : rul s.tx s.tc s.ru = q) (HT : TXQ h q ft fr nc rows) (kf : (n < 1 ∨ 99 < n ∨ 999 < s.dy + n) → Q [xI (-1)] h) (kt : 1 ≤ n → n ≤ 99 → s.dy + n ≤ 999 → ∀ h2, TH h2 (dysS fr s (Int.toNat n)) → Fr fl7 h h2 → Q [xI (smk s.mk s.nf - smk (dysS fr s (Int.toNat n)).mk s.nf)] h2) : hc_wp (d + 5) mX7_letGoBy 0 [xR 23, xI n, none, none] [] h Q := by
  refine wp_go rfl rfl ?_
  refine wp_go rfl rfl ?_
  refine e_clt rfl (fun c2 => ?_) (fun c2 => ?_)
  · skip
    refine wp_go rfl rfl ?_
    refine wp_ret rfl rfl ?_
    exact kf (by omega)
  · skip
    refine wp_go rfl rfl ?_
    refine wp_go rfl rfl ?_
    refine e_cgt rfl (fun c8 => ?_) (fun c8 => ?_)
    · skip
      refine wp_go rfl rfl ?_
      refine wp_ret rfl rfl ?_
      exact kf (by omega)
    · skip
      refine wp_go rfl rfl ?_
      refine e_get rfl H.1 rfl rfl ?_
      refine wp_go rfl rfl ?_
      refine e_iadd rfl (by have := hs.2.2.2.1; omega) ?_
      refine wp_go rfl rfl ?_
      refine e_cle rfl (fun c20 => ?_) (fun c20 => ?_)
      · skip
        refine wp_go rfl rfl ?_
        refine wp_cv rfl rfl rfl H.1 rfl rfl rfl ?_
        have hsm := smk_bd s.nf (fun p hp => hs.2.1.1 p (by have := hs.1; omega))
        refine c_box H.1 H.2.1 hs.1 hs.2.1.1 ?_
        refine e_istn (L' := [xR 23, xI n, xI (720720 - smk s.mk s.nf), none]) rfl rfl rfl ?_
        refine wp_go rfl rfl ?_
        refine e_istn (L' := [xR 23, xI n, xI (720720 - smk s.mk s.nf), xI 0]) rfl rfl rfl ?_
        have hnf := hs.1
        refine l_days (h0 := h) hs hq (by omega) (by omega) (by omega) (fun h2 G2 F2 => ?_) (Int.toNat n + 1) 0 0 h rfl (by omega) (by omega) H HT Fr.rf trivial
        have := kt (by omega) (by omega) (by omega) h2 G2 F2
        rw [(dys_kept (fr := fr) (s := s) (Int.toNat n)).1]
        rw [show 720720 - smk (dysS fr s (Int.toNat n)).mk s.nf - (720720 - smk s.mk s.nf) = smk s.mk s.nf - smk (dysS fr s (Int.toNat n)).mk s.nf by omega]
        exact this
      · skip
        refine wp_go rfl rfl ?_
        refine wp_ret rfl rfl ?_
        exact kf (by omega)
set_option maxRecDepth 100000 in
theorem c_give {d : Nat} {h : hc_H} {Q : List hc_V → hc_H → Prop} {s : cT} {who n : Int} (H : TH h s) (hs : cOK s) (kf : ¬ ((0 ≤ who ∧ who < (s.nf : Int)) ∧ 1 ≤ n ∧ n ≤ 720720 - smk s.mk s.nf) → Q [xI (-1)] h) (kt : (0 ≤ who ∧ who < (s.nf : Int)) → 1 ≤ n → n ≤ 720720 - smk s.mk s.nf → MK s.nf (hc_u s.mk (Int.toNat who) (s.mk (Int.toNat who) + n)) → ∀ h2, TH h2 (kepS s (hc_u s.mk (Int.toNat who) (s.mk (Int.toNat who) + n))) → Fr fl7 h h2 → Q [xI (720720 - smk (hc_u s.mk (Int.toNat who) (s.mk (Int.toNat who) + n)) s.nf)] h2) : hc_wp (d + 2) mX7_give 0 [xR 23, xI who, xI n] [] h Q := by
  obtain ⟨nf, dy, rn, x, wt, tc, ru, sc, mk, sl, tx, fs, ct, rs⟩ := s
  obtain ⟨H23, H27, H28, H29, H30, H31, HW⟩ := H
  obtain ⟨h1, h2, h3, h4, h5, h6, h7, h8⟩ := hs
  dsimp only [cT.nf, cT.dy, cT.rn, cT.x, cT.wt, cT.tc, cT.ru, cT.sc, cT.mk, cT.sl, cT.tx, cT.fs, cT.ct, cT.rs] at *
  refine wp_go rfl rfl ?_
  refine wp_go rfl rfl ?_
  refine wp_cv rfl rfl rfl H23 rfl rfl rfl ?_
  refine c_isFolk H23 (fun q2 => ?_) (fun q2 => ?_)
  · skip
    refine wp_go rfl rfl ?_
    refine wp_go rfl rfl ?_
    refine wp_go rfl rfl ?_
    refine e_clt rfl (fun c10 => ?_) (fun c10 => ?_)
    · skip
      refine wp_go rfl rfl ?_
      refine wp_ret rfl rfl ?_
      exact kf (by omega)
    · skip
      refine wp_go rfl rfl ?_
      refine wp_go rfl rfl ?_
      refine wp_cv rfl rfl rfl H23 rfl rfl rfl ?_
      refine c_box H23 H27 h1 h2.1 ?_
      refine e_cle rfl (fun c18 => ?_) (fun c18 => ?_)
      · skip
        refine wp_go rfl rfl ?_
        refine e_get rfl H23 rfl rfl ?_
        refine wp_go rfl rfl ?_
        refine wp_cv rfl rfl rfl H30 rfl rfl rfl ?_
        refine c_keep2 H23 H27 H30 H31 h8 ?_
        refine wp_go rfl rfl ?_
        refine e_get rfl H23 rfl rfl ?_
        refine wp_go rfl rfl ?_
        refine wp_go rfl rfl ?_
        have hmw := h2.1 (Int.toNat who) (by omega)
        refine e_ald rfl H27 rfl (by omega) ?_
        refine wp_go rfl rfl ?_
        refine e_iadd rfl (by have := (smk_ge 8 (fun j hj => (h2.1 j hj).1)).1; have := h2.nf8 h1; omega) ?_
        refine e_iast rfl H27 (by omega) ?_
        refine wp_go rfl rfl ?_
        refine wp_cv rfl rfl rfl H23 rfl rfl rfl ?_
        have hm2 := MK.add h2 h1 (w := Int.toNat who) (v := n) (by omega) (by omega) (by omega)
        refine c_box H23 rfl h1 hm2.1 ?_
        refine wp_ret rfl rfl ?_
        refine kt (by omega) (by omega) (by omega) hm2 _ ⟨H23, rfl, H28, H29, rfl, rfl, HW⟩ (((Fr.rf.wr rfl).wr rfl).wr rfl)
      · skip
        refine wp_go rfl rfl ?_
        refine wp_ret rfl rfl ?_
        exact kf (by omega)
  · skip
    refine wp_go rfl rfl ?_
    refine wp_go rfl rfl ?_
    refine wp_ret rfl rfl ?_
    exact kf (by omega)
set_option maxRecDepth 100000 in
theorem c_handOver {d : Nat} {h : hc_H} {Q : List hc_V → hc_H → Prop} {s : cT} {q : Option Nat} {ft fr : Option ef} {nc : Nat} {rows : Nat → Int} {a b p e : Int} (H : TH h s) (hs : cOK s) (hq : rul s.tx s.tc s.ru = q) (HT : TXQ h q ft fr nc rows) (kf : ¬ ((0 ≤ a ∧ a < (s.nf : Int)) ∧ (0 ≤ b ∧ b < (s.nf : Int)) ∧ a ≠ b ∧ 1 ≤ p ∧ p ≤ e ∧ e ≤ 99) → Q [xI (-1)] h) (kt : (0 ≤ a ∧ a < (s.nf : Int)) → (0 ≤ b ∧ b < (s.nf : Int)) → a ≠ b → (1 ≤ p ∧ p ≤ e ∧ e ≤ 99) → ∀ pd tl : Int, pd = s.mk (Int.toNat a) * p / e → tl = (if s.mk (Int.toNat a) * p % e = 0 then 0 else tlv ft a (s.mk (Int.toNat a)) s.dy pd (s.mk (Int.toNat a) * p % e)) → (0 ≤ pd ∧ 0 ≤ tl ∧ pd + tl ≤ s.mk (Int.toNat a)) → MK s.nf (hc_u (hc_u s.mk (Int.toNat a) (s.mk (Int.toNat a) - (pd + tl))) (Int.toNat b) (hc_u s.mk (Int.toNat a) (s.mk (Int.toNat a) - (pd + tl)) (Int.toNat b) + pd)) → ∀ h2, TH h2 (kepS s (hc_u (hc_u s.mk (Int.toNat a) (s.mk (Int.toNat a) - (pd + tl))) (Int.toNat b) (hc_u s.mk (Int.toNat a) (s.mk (Int.toNat a) - (pd + tl)) (Int.toNat b) + pd))) → Fr fl7 h h2 → Q [xI pd] h2) : hc_wp (d + 4) mX7_handOver 0 [xR 23, xI a, xI b, xI p, xI e, none, none, none, none] [] h Q := by
  obtain ⟨nf, dy, rn, x, wt, tc, ru, sc, mk, sl, tx, fs, ct, rs⟩ := s
  obtain ⟨H23, H27, H28, H29, H30, H31, HW⟩ := H
  obtain ⟨h1, h2, h3, h4, h5, h6, h7, h8⟩ := hs
  dsimp only [cT.nf, cT.dy, cT.rn, cT.x, cT.wt, cT.tc, cT.ru, cT.sc, cT.mk, cT.sl, cT.tx, cT.fs, cT.ct, cT.rs] at *
  refine wp_go rfl rfl ?_
  refine wp_go rfl rfl ?_
  refine wp_cv rfl rfl rfl H23 rfl rfl rfl ?_
  refine c_isFolk H23 (fun q2 => ?_) (fun q2 => ?_)
  · skip
    refine wp_go rfl rfl ?_
    refine wp_go rfl rfl ?_
    refine wp_go rfl rfl ?_
    refine wp_cv rfl rfl rfl H23 rfl rfl rfl ?_
    refine c_isFolk H23 (fun q10 => ?_) (fun q10 => ?_)
    · skip
      refine wp_go rfl rfl ?_
      refine wp_go rfl rfl ?_
      refine wp_go rfl rfl ?_
      refine e_ceq rfl (fun c18 => ?_) (fun c18 => ?_)
      · skip
        refine wp_go rfl rfl ?_
        refine wp_ret rfl rfl ?_
        exact kf (by omega)
      · skip
        refine wp_go rfl rfl ?_
        refine wp_go rfl rfl ?_
        refine e_clt rfl (fun c23 => ?_) (fun c23 => ?_)
        · skip
          refine wp_go rfl rfl ?_
          refine wp_ret rfl rfl ?_
          exact kf (by omega)
        · skip
          refine wp_go rfl rfl ?_
          refine wp_go rfl rfl ?_
          refine e_clt rfl (fun c29 => ?_) (fun c29 => ?_)
          · skip
            refine wp_go rfl rfl ?_
            refine wp_ret rfl rfl ?_
            exact kf (by omega)
          · skip
            refine wp_go rfl rfl ?_
            refine wp_go rfl rfl ?_
            refine e_cle rfl (fun c36 => ?_) (fun c36 => ?_)
            · skip
              refine wp_go rfl rfl ?_
              refine e_get rfl H23 rfl rfl ?_
              refine wp_go rfl rfl ?_
              refine wp_cv rfl rfl rfl H30 rfl rfl rfl ?_
              refine c_keep2 H23 H27 H30 H31 h8 ?_
              have hma := h2.1 (Int.toNat a) (by omega)
              have har := ho_ar hma (p := p) (q := e) (by omega) (by omega) (by omega)
              refine wp_go rfl rfl ?_
              refine e_get rfl H23 rfl rfl ?_
              refine wp_go rfl rfl ?_
              refine e_ald rfl H27 rfl (by omega) ?_
              refine wp_go rfl rfl ?_
              refine e_imul rfl (by omega) ?_
              refine e_ist (L' := [xR 23, xI a, xI b, xI p, xI e, xI ((mk (Int.toNat a)) * p), none, none, none]) rfl rfl rfl ?_
              obtain ⟨t, ht⟩ : ∃ z : Int, z = ((mk (Int.toNat a)) * p) := ⟨_, rfl⟩
              rw [← ht]
              rw [← ht] at har
              refine wp_go rfl rfl ?_
              refine wp_go rfl rfl ?_
              refine e_idiv rfl (by omega) (by omega) ?_
              refine e_ist (L' := [xR 23, xI a, xI b, xI p, xI e, xI t, xI (Int.tdiv t e), none, none]) rfl rfl rfl ?_
              rw [har.2.1]
              obtain ⟨pd, hpd⟩ : ∃ z : Int, z = t / e := ⟨_, rfl⟩
              rw [← hpd] at har ⊢
              refine wp_go rfl rfl ?_
              refine wp_go rfl rfl ?_
              refine e_irem rfl (by omega) ?_
              refine e_ist (L' := [xR 23, xI a, xI b, xI p, xI e, xI t, xI pd, xI (Int.tmod t e), none]) rfl rfl rfl ?_
              rw [har.2.2.2.1]
              obtain ⟨rest, hrest⟩ : ∃ z : Int, z = t % e := ⟨_, rfl⟩
              rw [← hrest] at har ⊢
              refine wp_go rfl rfl ?_
              refine e_ifne rfl (fun c75 => ?_) (fun c75 => ?_)
              · skip
                refine wp_go rfl rfl ?_
                refine wp_go rfl rfl ?_
                refine wp_go rfl rfl ?_
                refine wp_go rfl rfl ?_
                refine wp_cv rfl rfl rfl H23 rfl rfl rfl ?_
                have F0 : Fr [30, 31] h (hc_wr (hc_wr h 30 (stp (kfs fs ct) (kct ct))) 31 (ar 330 (krw fs ct mk rs dy x wt))) := (Fr.rf.wr rfl).wr rfl
                refine c_toll H23 H27 H29 HW hq (HT.kept (F0.big rfl)) (by omega) h2.1 (by omega) (by omega) (by omega) (fun g W2 F2 => ?_)
                obtain ⟨tl, htl⟩ : ∃ z : Int, z = tlv ft a (mk (Int.toNat a)) dy pd rest := ⟨_, rfl⟩
                rw [← htl]
                have htb := tlv_bd (ft := ft) (who := a) (has := mk (Int.toNat a)) (day := dy) (paid := pd) (rest := rest) (by omega)
                rw [← htl] at htb
                have G23 := (F2.2.2 23 rfl).trans H23
                have G27 := (F2.2.2 27 rfl).trans H27
                refine e_ist (L' := [xR 23, xI a, xI b, xI p, xI e, xI t, xI pd, xI rest, xI tl]) rfl rfl rfl ?_
                have hm2 := MK.move h2 h1 (a := Int.toNat a) (b := Int.toNat b) (p := pd) (t := tl) (by omega) (by omega) (by omega) (by omega) (by omega) (by omega)
                have hm3 := h2.1 (Int.toNat b) (by omega)
                have hmb : hc_u mk (Int.toNat a) (mk (Int.toNat a) - (pd + tl)) (Int.toNat b) = mk (Int.toNat b) := by
                  unfold hc_u
                  rw [if_neg (by omega)]
                have hpd2 : pd = mk (Int.toNat a) * p / e := by rw [hpd, ht]
                have hrest2 : rest = mk (Int.toNat a) * p % e := by rw [hrest, ht]
                refine wp_go rfl rfl ?_
                refine e_get rfl G23 rfl rfl ?_
                refine wp_go rfl rfl ?_
                refine wp_go rfl rfl ?_
                refine e_ald rfl G27 rfl (by omega) ?_
                refine wp_go rfl rfl ?_
                refine wp_go rfl rfl ?_
                refine e_iadd rfl (by omega) ?_
                refine e_isub rfl (by omega) ?_
                refine e_iast rfl G27 (by omega) ?_
                refine wp_go rfl rfl ?_
                refine e_get rfl G23 rfl rfl ?_
                refine wp_go rfl rfl ?_
                refine wp_go rfl rfl ?_
                refine e_ald rfl rfl rfl (by omega) ?_
                refine wp_go rfl rfl ?_
                refine e_iadd rfl (by omega) ?_
                refine e_iast rfl rfl (by omega) ?_
                refine wp_go rfl rfl ?_
                refine wp_ret rfl rfl ?_
                refine kt (by omega) (by omega) (by omega) (by omega) pd tl hpd2 (by rw [if_neg (by omega), htl, hrest2]) (by omega) hm2 _ ⟨G23, rfl, (F2.2.2 28 rfl).trans H28, (F2.2.2 29 rfl).trans H29, (F2.2.2 30 rfl).trans rfl, (F2.2.2 31 rfl).trans rfl, W2⟩ ?_
                exact (((Fr.mono F0 (nin_sub rfl)).tr (Fr.mono F2 (nin_sub rfl)) (fun _ z => z)).wr rfl).wr rfl
              · skip
                refine wp_go rfl rfl ?_
                refine wp_go rfl rfl ?_
                refine e_ist (L' := [xR 23, xI a, xI b, xI p, xI e, xI t, xI pd, xI rest, xI 0]) rfl rfl rfl ?_
                have hm2 := MK.move h2 h1 (a := Int.toNat a) (b := Int.toNat b) (p := pd) (t := 0) (by omega) (by omega) (by omega) (by omega) (by omega) (by omega)
                have hm3 := h2.1 (Int.toNat b) (by omega)
                have hmb : hc_u mk (Int.toNat a) (mk (Int.toNat a) - (pd + 0)) (Int.toNat b) = mk (Int.toNat b) := by
                  unfold hc_u
                  rw [if_neg (by omega)]
                have hpd2 : pd = mk (Int.toNat a) * p / e := by rw [hpd, ht]
                have hrest2 : rest = mk (Int.toNat a) * p % e := by rw [hrest, ht]
                refine wp_go rfl rfl ?_
                refine e_get rfl H23 rfl rfl ?_
                refine wp_go rfl rfl ?_
                refine wp_go rfl rfl ?_
                refine e_ald rfl H27 rfl (by omega) ?_
                refine wp_go rfl rfl ?_
                refine wp_go rfl rfl ?_
                refine e_iadd rfl (by omega) ?_
                refine e_isub rfl (by omega) ?_
                refine e_iast rfl H27 (by omega) ?_
                refine wp_go rfl rfl ?_
                refine e_get rfl H23 rfl rfl ?_
                refine wp_go rfl rfl ?_
                refine wp_go rfl rfl ?_
                refine e_ald rfl rfl rfl (by omega) ?_
                refine wp_go rfl rfl ?_
                refine e_iadd rfl (by omega) ?_
                refine e_iast rfl rfl (by omega) ?_
                refine wp_go rfl rfl ?_
                refine wp_ret rfl rfl ?_
                refine kt (by omega) (by omega) (by omega) (by omega) pd 0 hpd2 (by rw [if_pos (by omega)]) (by omega) hm2 _ ⟨H23, rfl, H28, H29, rfl, rfl, HW⟩ ?_
                exact (((Fr.rf.wr rfl).wr rfl).wr rfl).wr rfl
            · skip
              refine wp_go rfl rfl ?_
              refine wp_ret rfl rfl ?_
              exact kf (by omega)
    · skip
      refine wp_go rfl rfl ?_
      refine wp_go rfl rfl ?_
      refine wp_ret rfl rfl ?_
      exact kf (by omega)
  · skip
    refine wp_go rfl rfl ?_
    refine wp_go rfl rfl ?_
    refine wp_ret rfl rfl ?_
    exact kf (by omega)
