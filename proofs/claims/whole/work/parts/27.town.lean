/-! the class: Town, fifth part: the town as one value; one day; days -/
abbrev cT : Type := Nat × Int × Int × Int × Int × Int × Int × Int × (Nat → Int) × (Nat → Int) × (Nat → Option Nat) × Int × Int × (Nat → Int)
abbrev cT.nf (s : cT) : Nat := s.1
abbrev cT.dy (s : cT) : Int := s.2.1
abbrev cT.rn (s : cT) : Int := s.2.2.1
abbrev cT.x (s : cT) : Int := s.2.2.2.1
abbrev cT.wt (s : cT) : Int := s.2.2.2.2.1
abbrev cT.tc (s : cT) : Int := s.2.2.2.2.2.1
abbrev cT.ru (s : cT) : Int := s.2.2.2.2.2.2.1
abbrev cT.sc (s : cT) : Int := s.2.2.2.2.2.2.2.1
abbrev cT.mk (s : cT) : Nat → Int := s.2.2.2.2.2.2.2.2.1
abbrev cT.sl (s : cT) : Nat → Int := s.2.2.2.2.2.2.2.2.2.1
abbrev cT.tx (s : cT) : Nat → Option Nat := s.2.2.2.2.2.2.2.2.2.2.1
abbrev cT.fs (s : cT) : Int := s.2.2.2.2.2.2.2.2.2.2.2.1
abbrev cT.ct (s : cT) : Int := s.2.2.2.2.2.2.2.2.2.2.2.2.1
abbrev cT.rs (s : cT) : Nat → Int := s.2.2.2.2.2.2.2.2.2.2.2.2.2
def TH (h : hc_H) (s : cT) : Prop :=
  h.2.2 23 = tw (s.nf : Int) s.dy s.rn s.x s.wt s.tc s.ru s.sc ∧ h.2.2 27 = ar 8 s.mk ∧ h.2.2 28 = ar 8 s.sl ∧ h.2.2 29 = .inl (3, 4, .inr s.tx) ∧ h.2.2 30 = stp s.fs s.ct ∧ h.2.2 31 = ar 330 s.rs ∧ WS h
def cOK (s : cT) : Prop := s.nf ≤ 8 ∧ MK s.nf s.mk ∧ SL s.sl ∧ (0 ≤ s.dy ∧ s.dy ≤ 999) ∧ (0 ≤ s.rn ∧ s.rn ≤ 10) ∧ (0 ≤ s.x ∧ s.x < 90015) ∧ (s.wt = 0 ∨ s.wt = 1) ∧ FT s.fs s.ct
def wv (s : cT) : Int := if s.x % 10 < s.rn then 1 else 0
def dayW (fr : Option ef) (w : Int) (s : cT) : cT := (s.nf, s.dy + 1, s.rn, (s.x * 163 + 97) % 30097, w, s.tc, s.ru, s.sc, ddm fr s.mk s.sl (s.dy + 1) w s.nf, s.sl, s.tx, kfs s.fs s.ct, kct s.ct, krw s.fs s.ct s.mk s.rs s.dy s.x s.wt)
def dayS (fr : Option ef) (s : cT) : cT := dayW fr (wv s) s
theorem ddm_0 {fr : Option ef} {mk sl : Nat → Int} {dy wt : Int} : ddm fr mk sl dy wt 0 = mk := by
  funext p
  simp [ddm]
theorem smk_le {a b : Nat → Int} : ∀ n : Nat, (∀ j, j < n → a j ≤ b j) → smk a n ≤ smk b n := by
  intro n
  induction n with
  | zero => intro _; exact Int.le_refl _
  | succ n ih =>
    intro hj
    have h1 := ih (fun j hj2 => hj j (by omega))
    have h2 := hj n (by omega)
    simp only [smk]
    omega
theorem MK.dd {nf : Nat} {fr : Option ef} {mk sl : Nat → Int} {dy wt : Int} (H : MK nf mk) : MK nf (ddm fr mk sl dy wt nf) := by
  obtain ⟨h1, h2, h3⟩ := H
  have hb : ∀ j, j < 8 → 0 ≤ ddm fr mk sl dy wt nf j ∧ ddm fr mk sl dy wt nf j ≤ mk j := by
    intro j hj
    have a := h1 j hj
    have b := rbv_bd (fr := fr) (who := (j : Int)) (has := mk j) (day := dy) (sl := sl j) (wet := wt) (by omega)
    unfold ddm
    split <;> omega
  refine ⟨fun j hj => ?_, fun j hj1 hj2 => ?_, ?_⟩
  · have a := hb j hj
    have b := h1 j hj
    omega
  · unfold ddm
    rw [if_neg (by omega)]
    exact h2 j hj1 hj2
  · exact Int.le_trans (smk_le 8 (fun j hj => (hb j hj).2)) h3
theorem cOK.day {fr : Option ef} {s : cT} (H : cOK s) (hd : s.dy < 999) : cOK (dayS fr s) := by
  obtain ⟨h1, h2, h3, h4, h5, h6, h7, h8⟩ := H
  refine ⟨h1, h2.dd, h3, ?_, h5, ?_, ?_, h8.keep⟩
  · show 0 ≤ s.dy + 1 ∧ s.dy + 1 ≤ 999
    omega
  · show 0 ≤ (s.x * 163 + 97) % 30097 ∧ (s.x * 163 + 97) % 30097 < 90015
    omega
  · show wv s = 0 ∨ wv s = 1
    unfold wv
    split <;> simp
theorem Fr.mono {l1 l2 : List Nat} {h h' : hc_H} (H : Fr l1 h h') (hs : ∀ a, nin l2 a = true → nin l1 a = true) : Fr l2 h h' := ⟨H.1, H.2.1, fun a ha => H.2.2 a (hs a ha)⟩
set_option maxRecDepth 100000 in
theorem l_day38 {d : Nat} {h : hc_H} {Q : List hc_V → hc_H → Prop} {nf : Nat} {dy rn x wt tc ru sc w : Int} {mk sl : Nat → Int} {tx : Nat → Option Nat} {q : Option Nat} {ft fr : Option ef} {nc : Nat} {rows : Nat → Int} (H23 : h.2.2 23 = tw (nf : Int) dy rn x wt tc ru sc) (H27 : h.2.2 27 = ar 8 mk) (H28 : h.2.2 28 = ar 8 sl) (H29 : h.2.2 29 = .inl (3, 4, .inr tx)) (HW : WS h) (hq : rul tx tc ru = q) (HT : TXQ h q ft fr nc rows) (hnf : nf ≤ 8) (hmk : ∀ j, j < 8 → 0 ≤ mk j ∧ mk j ≤ 720720) (hsl : SL sl) (hdy : 0 ≤ dy ∧ dy ≤ 2000) (hx : 0 ≤ x ∧ x < 90015) (hw : w = 0 ∨ w = 1) (k : ∀ h2, h2.2.2 23 = tw (nf : Int) dy rn ((x * 163 + 97) % 30097) w tc ru sc → h2.2.2 27 = ar 8 (ddm fr mk sl dy w nf) → h2.2.2 28 = ar 8 sl → WS h2 → Fr [23, 24, 25, 26, 27] h h2 → Q [] h2) : hc_wp (d + 4) mX7_oneDay 38 [xR 23, none, none] [xI w, xR 23] h Q := by
  refine e_put (fs' := [xR 24, xI (nf : Int), xR 27, xR 28, xI dy, xI rn, xI x, xI w, xR 29, xI tc, xI ru, xR 30, xR 32, xR 36, xI sc]) rfl H23 rfl rfl ?_
  refine wp_go rfl rfl ?_
  refine wp_go rfl rfl ?_
  refine e_get rfl rfl rfl rfl ?_
  refine wp_go rfl rfl ?_
  refine e_imul rfl (by omega) ?_
  refine wp_go rfl rfl ?_
  refine e_iadd rfl (by omega) ?_
  refine wp_go rfl rfl ?_
  refine e_irem rfl (by omega) ?_
  rw [Int.tmod_eq_emod_of_nonneg (by omega)]
  refine e_put (fs' := [xR 24, xI (nf : Int), xR 27, xR 28, xI dy, xI rn, xI ((x * 163 + 97) % 30097), xI w, xR 29, xI tc, xI ru, xR 30, xR 32, xR 36, xI sc]) rfl rfl rfl rfl ?_
  refine wp_go rfl rfl ?_
  refine wp_go rfl rfl ?_
  refine e_get rfl rfl rfl rfl ?_
  refine wp_cv rfl rfl rfl rfl rfl rfl rfl ?_
  refine c_textAt2 rfl H29 hq ?_
  refine e_astn (L' := [xR 23, xQ q, none]) rfl rfl rfl ?_
  refine wp_go rfl rfl ?_
  refine e_istn (L' := [xR 23, xQ q, xI 0]) rfl rfl rfl ?_
  have F0 : Fr [23] h (hc_wr (hc_wr h 23 (tw (nf : Int) dy rn x w tc ru sc)) 23 (tw (nf : Int) dy rn ((x * 163 + 97) % 30097) w tc ru sc)) := (Fr.rf.wr rfl).wr rfl
  refine l_day (h0 := hc_wr (hc_wr h 23 (tw (nf : Int) dy rn x w tc ru sc)) 23 (tw (nf : Int) dy rn ((x * 163 + 97) % 30097) w tc ru sc)) hnf hmk hsl hdy hw (fun h2 A B C D E F => ?_) (nf + 1) 0 0 _ rfl (by omega) (by omega) rfl ?_ H28 HW (HT.kept (F0.big rfl)) Fr.rf trivial
  · exact k h2 A B C D ((F0.tr (l2 := [23, 24, 25, 26, 27]) (Fr.mono F (nin_sub rfl)) (nin_sub rfl)))
  · rw [ddm_0]
    exact H27
set_option maxRecDepth 100000 in
theorem c_oneDay {d : Nat} {h : hc_H} {Q : List hc_V → hc_H → Prop} {s : cT} {q : Option Nat} {ft fr : Option ef} {nc : Nat} {rows : Nat → Int} (H : TH h s) (hs : cOK s) (hd : s.dy < 999) (hq : rul s.tx s.tc s.ru = q) (HT : TXQ h q ft fr nc rows) (k : ∀ h2, TH h2 (dayS fr s) → Fr fl7 h h2 → Q [] h2) : hc_wp (d + 4) mX7_oneDay 0 [xR 23, none, none] [] h Q := by
  have k2 : ∀ w, w = wv s → ∀ h2, TH h2 (dayW fr w s) → Fr fl7 h h2 → Q [] h2 := by
    rintro w rfl
    exact k
  obtain ⟨nf, dy, rn, x, wt, tc, ru, sc, mk, sl, tx, fs, ct, rs⟩ := s
  obtain ⟨H23, H27, H28, H29, H30, H31, HW⟩ := H
  obtain ⟨h1, h2, h3, h4, h5, h6, h7, h8⟩ := hs
  dsimp only [cT.nf, cT.dy, cT.rn, cT.x, cT.wt, cT.tc, cT.ru, cT.sc, cT.mk, cT.sl, cT.tx, cT.fs, cT.ct, cT.rs] at *
  refine wp_go rfl rfl ?_
  refine e_get rfl H23 rfl rfl ?_
  refine wp_go rfl rfl ?_
  refine wp_cv rfl rfl rfl H30 rfl rfl rfl ?_
  refine c_keep2 H23 H27 H30 H31 h8 ?_
  refine wp_go rfl rfl ?_
  refine wp_go rfl rfl ?_
  refine e_get rfl H23 rfl rfl ?_
  refine wp_go rfl rfl ?_
  refine e_iadd rfl (by omega) ?_
  refine e_put (fs' := [xR 24, xI (nf : Int), xR 27, xR 28, xI (dy + 1), xI rn, xI x, xI wt, xR 29, xI tc, xI ru, xR 30, xR 32, xR 36, xI sc]) rfl H23 rfl rfl ?_
  refine wp_go rfl rfl ?_
  refine wp_go rfl rfl ?_
  refine e_get rfl rfl rfl rfl ?_
  refine wp_go rfl rfl ?_
  refine e_irem rfl (by omega) ?_
  refine wp_go rfl rfl ?_
  refine e_get rfl rfl rfl rfl ?_
  have e10 : Int.tmod x 10 = x % 10 := Int.tmod_eq_emod_of_nonneg (by omega)
  refine e_cge rfl (fun c30 => ?_) (fun c30 => ?_)
  · skip
    refine wp_go rfl rfl ?_
    have hwv : (0 : Int) = if x % 10 < rn then 1 else 0 := (if_neg (by omega)).symm
    have F0 : Fr [23, 30, 31] h (hc_wr (hc_wr (hc_wr h 30 (stp (kfs fs ct) (kct ct))) 31 (ar 330 (krw fs ct mk rs dy x wt))) 23 (tw (nf : Int) (dy + 1) rn x wt tc ru sc)) := ((Fr.rf.wr rfl).wr rfl).wr rfl
    refine l_day38 rfl H27 H28 H29 HW hq (HT.kept (F0.big rfl)) h1 h2.1 h3 (by omega) h6 (by omega) (fun g A B C D E => ?_)
    refine k2 _ hwv g ⟨A, B, C, (E.2.2 29 rfl).trans H29, (E.2.2 30 rfl).trans rfl, (E.2.2 31 rfl).trans rfl, D⟩ ?_
    exact (Fr.mono F0 (nin_sub rfl)).tr (Fr.mono E (nin_sub rfl)) (fun _ z => z)
  · skip
    refine wp_go rfl rfl ?_
    refine wp_go rfl rfl ?_
    have hwv : (1 : Int) = if x % 10 < rn then 1 else 0 := (if_pos (by omega)).symm
    have F0 : Fr [23, 30, 31] h (hc_wr (hc_wr (hc_wr h 30 (stp (kfs fs ct) (kct ct))) 31 (ar 330 (krw fs ct mk rs dy x wt))) 23 (tw (nf : Int) (dy + 1) rn x wt tc ru sc)) := ((Fr.rf.wr rfl).wr rfl).wr rfl
    refine l_day38 rfl H27 H28 H29 HW hq (HT.kept (F0.big rfl)) h1 h2.1 h3 (by omega) h6 (by omega) (fun g A B C D E => ?_)
    refine k2 _ hwv g ⟨A, B, C, (E.2.2 29 rfl).trans H29, (E.2.2 30 rfl).trans rfl, (E.2.2 31 rfl).trans rfl, D⟩ ?_
    exact (Fr.mono F0 (nin_sub rfl)).tr (Fr.mono E (nin_sub rfl)) (fun _ z => z)
