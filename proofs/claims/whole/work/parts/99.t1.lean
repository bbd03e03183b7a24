/-! what holds between two calls -/
def KP (lo hi : Nat) (h h2 : hc_H) : Prop := ∀ a, lo ≤ a → a ≤ hi → h2.2.2 a = h.2.2 a
theorem KP.rf {lo hi : Nat} {h : hc_H} : KP lo hi h h := fun _ _ _ => rfl
theorem Fr.kp {l : List Nat} {h h2 : hc_H} {lo hi : Nat} (F : Fr l h h2) (hl : l.all (fun x => Nat.blt x lo || Nat.blt hi x) = true) : KP lo hi h h2 := fun a h1 h3 => F.2.2 a (nin_rng hl a h1 h3)
theorem KP.tr {lo hi : Nat} {h h1 h2 : hc_H} (A : KP lo hi h h1) (B : KP lo hi h1 h2) : KP lo hi h h2 := fun a x y => (B a x y).trans (A a x y)
def G1 (h : hc_H) (L : Nat) (xs : Nat → Int) : Prop := h.2.2 0 = .inl (9, L, .inl xs) ∧ STR h
def G2 (h : hc_H) (n : Nat) (B : Nat → Int) : Prop := h.2.2 22 = cco (n : Int) ∧ h.2.2 70 = ar 300 B
def G5n (h : hc_H) : Prop := ∃ (pn : Int) (bl sm mo py pe am : Nat → Int), h.2.2 58 = net pn ∧ h.2.2 59 = ar 8 bl ∧ h.2.2 60 = ar 256 sm ∧ h.2.2 61 = ar 256 mo ∧ h.2.2 62 = ar 8 py ∧ h.2.2 63 = ar 8 pe ∧ h.2.2 64 = ar 8 am
def G5m (h : hc_H) : Prop := ∃ (tg : Int) (lw ls ch pt : Nat → Int), LB lw ∧ h.2.2 65 = mar tg ∧ h.2.2 66 = ar 64 lw ∧ h.2.2 67 = ar 256 ls ∧ h.2.2 68 = ar 256 ch ∧ h.2.2 69 = ar 8 pt
def G7 (h : hc_H) (s A A2 T B : Nat → Int) : Prop := h.2.2 71 = mo s ∧ h.2.2 72 = ar 456 A ∧ h.2.2 73 = ar 456 A2 ∧ h.2.2 74 = ar 2720 T ∧ h.2.2 75 = ar 300 B
def G76 (h : hc_H) : Prop := ∃ f, h.2.2 76 = ar 160 f
def G8n (h : hc_H) : Prop := ∃ (B sm M P : Nat → Int), (∀ q, q < 256 → -1 ≤ M q ∧ M q ≤ 255) ∧ h.2.2 80 = ar 8 B ∧ h.2.2 81 = ar 256 sm ∧ h.2.2 82 = ar 256 M ∧ h.2.2 83 = ar 24 P
def G8m (h : hc_H) : Prop := ∃ (pt bp lw T F : Nat → Int), h.2.2 84 = ar 8 pt ∧ h.2.2 85 = ar 8 bp ∧ h.2.2 86 = ar 64 lw ∧ h.2.2 87 = ar 9 T ∧ h.2.2 88 = ar 9 F
def G8b (h : hc_H) : Prop := ∃ (py cu : Nat → Int), h.2.2 89 = ar 8 py ∧ h.2.2 90 = arL 8 cu
theorem G1.kp {h h2 : hc_H} {L : Nat} {xs : Nat → Int} (H : G1 h L xs) (K : KP 0 21 h h2) : G1 h2 L xs := ⟨(K 0 (by omega) (by omega)).trans H.1, fun i hi => (K (i + 1) (by omega) (by omega)).trans (H.2 i hi)⟩
theorem G2.kp {h h2 : hc_H} {n : Nat} {B : Nat → Int} (H : G2 h n B) (K : KP 22 22 h h2) (K2 : KP 70 70 h h2) : G2 h2 n B := ⟨(K 22 (by omega) (by omega)).trans H.1, (K2 70 (by omega) (by omega)).trans H.2⟩
theorem G3.kp {h h2 : hc_H} {s : cT} {e : dX} (H : G3 h s e) (K : KP 23 36 h h2) : G3 h2 s e :=
  ⟨H.1.kept (fun a x y => K a x (by omega)), (K 32 (by omega) (by omega)).trans H.2.1, (K 33 (by omega) (by omega)).trans H.2.2.1, (K 34 (by omega) (by omega)).trans H.2.2.2.1, (K 35 (by omega) (by omega)).trans H.2.2.2.2.1, (K 36 (by omega) (by omega)).trans H.2.2.2.2.2⟩
theorem G4.kp {h h2 : hc_H} {s : cT} {e : dX} (H : G4 h s e) (K : KP 37 50 h h2) : G4 h2 s e := by
  obtain ⟨a1, a2, a3, a4, a5, a6, a7, a8, a9, a10, a11⟩ := H
  exact ⟨(K 37 (by omega) (by omega)).trans a1, (K 41 (by omega) (by omega)).trans a2, (K 42 (by omega) (by omega)).trans a3, (K 43 (by omega) (by omega)).trans a4, (K 44 (by omega) (by omega)).trans a5, (K 45 (by omega) (by omega)).trans a6, (K 46 (by omega) (by omega)).trans a7, (K 47 (by omega) (by omega)).trans a8, (K 48 (by omega) (by omega)).trans a9, (K 49 (by omega) (by omega)).trans a10, (K 50 (by omega) (by omega)).trans a11⟩
theorem G5n.kp {h h2 : hc_H} (H : G5n h) (K : KP 58 64 h h2) : G5n h2 := by
  obtain ⟨pn, bl, sm, mo, py, pe, am, a1, a2, a3, a4, a5, a6, a7⟩ := H
  exact ⟨pn, bl, sm, mo, py, pe, am, (K 58 (by omega) (by omega)).trans a1, (K 59 (by omega) (by omega)).trans a2, (K 60 (by omega) (by omega)).trans a3, (K 61 (by omega) (by omega)).trans a4, (K 62 (by omega) (by omega)).trans a5, (K 63 (by omega) (by omega)).trans a6, (K 64 (by omega) (by omega)).trans a7⟩
theorem G5m.kp {h h2 : hc_H} (H : G5m h) (K : KP 65 69 h h2) : G5m h2 := by
  obtain ⟨tg, lw, ls, ch, pt, a0, a1, a2, a3, a4, a5⟩ := H
  exact ⟨tg, lw, ls, ch, pt, a0, (K 65 (by omega) (by omega)).trans a1, (K 66 (by omega) (by omega)).trans a2, (K 67 (by omega) (by omega)).trans a3, (K 68 (by omega) (by omega)).trans a4, (K 69 (by omega) (by omega)).trans a5⟩
theorem G7.kp {h h2 : hc_H} {s A A2 T B : Nat → Int} (H : G7 h s A A2 T B) (K : KP 71 75 h h2) : G7 h2 s A A2 T B :=
  ⟨(K 71 (by omega) (by omega)).trans H.1, (K 72 (by omega) (by omega)).trans H.2.1, (K 73 (by omega) (by omega)).trans H.2.2.1, (K 74 (by omega) (by omega)).trans H.2.2.2.1, (K 75 (by omega) (by omega)).trans H.2.2.2.2⟩
theorem G76.kp {h h2 : hc_H} (H : G76 h) (K : KP 76 76 h h2) : G76 h2 := by
  obtain ⟨f, a⟩ := H
  exact ⟨f, (K 76 (by omega) (by omega)).trans a⟩
theorem MVN.kp {h h2 : hc_H} (H : MVN h) (K : KP 77 79 h h2) : MVN h2 := by
  obtain ⟨⟨nm, b, a1⟩, ⟨v, a2⟩, t, a3⟩ := H
  exact ⟨⟨nm, b, (K 77 (by omega) (by omega)).trans a1⟩, ⟨v, (K 78 (by omega) (by omega)).trans a2⟩, t, (K 79 (by omega) (by omega)).trans a3⟩
theorem G8n.kp {h h2 : hc_H} (H : G8n h) (K : KP 80 83 h h2) : G8n h2 := by
  obtain ⟨B, sm, M, P, a0, a1, a2, a3, a4⟩ := H
  exact ⟨B, sm, M, P, a0, (K 80 (by omega) (by omega)).trans a1, (K 81 (by omega) (by omega)).trans a2, (K 82 (by omega) (by omega)).trans a3, (K 83 (by omega) (by omega)).trans a4⟩
theorem G8m.kp {h h2 : hc_H} (H : G8m h) (K : KP 84 88 h h2) : G8m h2 := by
  obtain ⟨pt, bp, lw, T, F, a1, a2, a3, a4, a5⟩ := H
  exact ⟨pt, bp, lw, T, F, (K 84 (by omega) (by omega)).trans a1, (K 85 (by omega) (by omega)).trans a2, (K 86 (by omega) (by omega)).trans a3, (K 87 (by omega) (by omega)).trans a4, (K 88 (by omega) (by omega)).trans a5⟩
theorem G8b.kp {h h2 : hc_H} (H : G8b h) (K : KP 89 90 h h2) : G8b h2 := by
  obtain ⟨py, cu, a1, a2⟩ := H
  exact ⟨py, cu, (K 89 (by omega) (by omega)).trans a1, (K 90 (by omega) (by omega)).trans a2⟩
def TTB (h : hc_H) (q : Option Nat) : Prop := ∀ t, q = some t → 91 ≤ t ∧ t < h.1 ∧ ∃ fs, h.2.2 t = .inr (5, fs)
theorem TTB.tt {h : hc_H} {q : Option Nat} (H : TTB h q) : TT h q := by
  cases q with
  | none => trivial
  | some t =>
    have := H t rfl
    exact ⟨this.1, this.2.2⟩
theorem TTB.fa {h h2 : hc_H} {q : Option Nat} {c s : Nat} {l : List Nat} (H : TTB h q) (F : FA c s l h h2) (hl : l.all (fun x => Nat.blt x 91) = true) : TTB h2 q := by
  intro t e
  obtain ⟨a, b, fs, c⟩ := H t e
  have := F.1
  exact ⟨a, by omega, fs, (F.2.2.2 t b (nin_big hl a)).trans c⟩
theorem TOKB.ttb {h : hc_H} {t : Nat} {ft fr : Option ef} {nc : Nat} {rows : Nat → Int} (H : TOKB h t ft fr nc rows) : TTB h (some t) := by
  obtain ⟨rt, rr, ra, a, b, _, _, _, _, _, c, _⟩ := H
  intro u e
  cases e
  exact ⟨b, c, _, a⟩
def TI (h : hc_H) (tc : Int) (tx : Nat → Option Nat) (T : Nat → Int) (ftf frf : Nat → Option ef) (ncf : Nat → Nat) (rwf : Nat → Nat → Int) : Prop := ∀ t : Nat, (t : Int) < tc → ∃ ta, tx t = some ta ∧ TOKB h ta (ftf t) (frf t) (ncf t) (rwf t) ∧ MTX T (t : Int) (ftf t) (frf t) ∧ TRX T t (ncf t) (rwf t)
theorem TI.fa {h h2 : hc_H} {tc : Int} {tx : Nat → Option Nat} {T : Nat → Int} {ftf frf : Nat → Option ef} {ncf : Nat → Nat} {rwf : Nat → Nat → Int} {c s : Nat} {l : List Nat} (H : TI h tc tx T ftf frf ncf rwf) (F : FA c s l h h2) (hl : l.all (fun x => Nat.blt x 91) = true) : TI h2 tc tx T ftf frf ncf rwf := fun t ht => by
  obtain ⟨ta, a, b, c⟩ := H t ht
  exact ⟨ta, a, b.fa F hl, c⟩
def KX (h : hc_H) (tc kc : Int) (tx kx : Nat → Option Nat) : Prop := kc ≤ tc ∧ (∀ t : Nat, (t : Int) < kc → kx t = tx t) ∧ (∀ p, p < 4 → TTB h (tx p)) ∧ ∀ p, p < 4 → TTB h (kx p)
theorem KX.fa {h h2 : hc_H} {tc kc : Int} {tx kx : Nat → Option Nat} {c s : Nat} {l : List Nat} (H : KX h tc kc tx kx) (F : FA c s l h h2) (hl : l.all (fun x => Nat.blt x 91) = true) : KX h2 tc kc tx kx :=
  ⟨H.1, H.2.1, fun p hp => (H.2.2.1 p hp).fa F hl, fun p hp => (H.2.2.2 p hp).fa F hl⟩
def PU (s : cT) (e : dX) : Prop := cOK s ∧ RK s ∧ (0 ≤ s.tc ∧ s.tc ≤ 4) ∧ (-1 ≤ s.ru ∧ s.ru < s.tc) ∧ (0 ≤ s.sc ∧ s.sc ≤ 8) ∧ e.1 ≤ 20 ∧ (∀ j, j < e.1 → 0 ≤ e.2.2.2.1 j ∧ e.2.2.2.1 j ≤ 720720) ∧ (∀ j, j < e.1 → e.2.1 j ≠ e.2.2.1 j) ∧ (∀ j, j < e.1 → (0 ≤ e.2.1 j ∧ e.2.1 j < (s.nf : Int)) ∧ (0 ≤ e.2.2.1 j ∧ e.2.2.1 j < (s.nf : Int))) ∧ SN e.2.2.2.2
def FLT (hr fo pl : Int) (s : Nat → Int) : Prop := (hr = 0 ∧ s 5 = -1 ∧ s 6 = -1) ∨ (hr = 1 ∧ s 5 = fo ∧ s 6 = pl)
theorem TI.at {h : hc_H} {tc : Int} {tx : Nat → Option Nat} {T : Nat → Int} {ftf frf : Nat → Option ef} {ncf : Nat → Nat} {rwf : Nat → Nat → Int} (H : TI h tc tx T ftf frf ncf rwf) (htc : 0 ≤ tc ∧ tc ≤ 4) {t : Int} (ht : -1 ≤ t ∧ t < tc) : ∃ (ft fr : Option ef) (nc : Nat) (rows : Nat → Int), TXQ h (rul tx tc t) ft fr nc rows ∧ MTX T t ft fr := by
  by_cases z : t = -1
  · refine ⟨none, none, 0, fun _ => 0, ?_, Or.inl ⟨by omega, rfl, rfl⟩⟩
    rw [rul, if_neg (by omega)]
    exact ⟨rfl, rfl⟩
  · obtain ⟨n, hn⟩ : ∃ n : Nat, t = (n : Int) := ⟨Int.toNat t, by omega⟩
    subst hn
    obtain ⟨ta, a, b, c, _⟩ := H n ht.2
    refine ⟨ftf n, frf n, ncf n, rwf n, ?_, c⟩
    rw [rul, if_pos (by omega), Int.toNat_natCast, a]
    exact b.tok
theorem TI.xs {h : hc_H} {tc : Int} {tx : Nat → Option Nat} {T : Nat → Int} {ftf frf : Nat → Option ef} {ncf : Nat → Nat} {rwf : Nat → Nat → Int} (H : TI h tc tx T ftf frf ncf rwf) : TXS h tx tc ftf frf ncf rwf := fun t _ ht => by
  obtain ⟨ta, a, b, _⟩ := H t ht
  rw [a]
  exact b.tok
theorem TXL.cg {T T2 : Nat → Int} {t0 nc : Nat} {lw : Int} {g : Option ef} (H : TXL T t0 nc lw g) (hnc : nc ≤ 24) (h : ∀ a, t0 ≤ a → a < t0 + 680 → T2 a = T a) : TXL T2 t0 nc lw g := by
  refine ⟨fun k hk e => ?_, fun hg => ?_⟩
  · rw [h _ (by omega) (by omega)] at e
    obtain ⟨V, a, b, h1, h2, h3, h4, h5⟩ := H.1 k hk e
    refine ⟨V, a, b, h1, ?_, ?_, h4, h5.eq (fun x x1 x2 => h x (by omega) (by omega))⟩
    · rw [h _ (by omega) (by omega)]
      exact h2
    · rw [h _ (by omega) (by omega)]
      exact h3
  · obtain ⟨k, hk, e⟩ := H.2 hg
    exact ⟨k, hk, by rw [h _ (by omega) (by omega)]; exact e⟩
theorem MTX.cg {T T2 : Nat → Int} {t : Nat} {ft fr : Option ef} (H : MTX T (t : Int) ft fr) (h : ∀ a, 680 * t ≤ a → a < 680 * t + 680 → T2 a = T a) : MTX T2 (t : Int) ft fr := by
  cases H with
  | inl y => exact absurd y.1 (by omega)
  | inr y =>
    obtain ⟨n, nc, h1, h2, h3, h4, h5, h6⟩ := y
    have e : n = t := by omega
    subst e
    exact Or.inr ⟨n, nc, rfl, h2, by rw [h _ (by omega) (by omega)]; exact h3, h4, h5.cg h4 h, h6.cg h4 h⟩
theorem TRX.cg {T T2 : Nat → Int} {t nc : Nat} {rw_ : Nat → Int} (H : TRX T t nc rw_) (h : ∀ a, 680 * t ≤ a → a < 680 * t + 680 → T2 a = T a) : TRX T2 t nc rw_ := by
  have hn := H.2.1
  refine ⟨by rw [h _ (by omega) (by omega)]; exact H.1, hn, fun k hk => ?_⟩
  have h3 := H.2.2 k hk
  unfold TR1 at h3 ⊢
  rw [h (680 * t + 1 + 3 * k) (by omega) (by omega), h (680 * t + 1 + 3 * k + 1) (by omega) (by omega), h (680 * t + 1 + 3 * k + 2) (by omega) (by omega)]
  exact h3
theorem TI.cg {h : hc_H} {tc : Int} {tx : Nat → Option Nat} {T T2 : Nat → Int} {ftf frf : Nat → Option ef} {ncf : Nat → Nat} {rwf : Nat → Nat → Int} (H : TI h tc tx T ftf frf ncf rwf) (hT : ∀ a : Nat, (a : Int) < 680 * tc → T2 a = T a) : TI h tc tx T2 ftf frf ncf rwf := fun t ht => by
  obtain ⟨ta, a, b, c, e⟩ := H t ht
  exact ⟨ta, a, b, c.cg (fun x _ x2 => hT x (by omega)), e.cg (fun x _ x2 => hT x (by omega))⟩
def INV (h : hc_H) (L : Nat) (xs : Nat → Int) : Prop := ∃ (cs ks : cT) (e ke : dX) (n : Nat) (B s A A2 T : Nat → Int) (hr fo pl : Int) (ftf frf : Nat → Option ef) (ncf : Nat → Nat) (rwf : Nat → Nat → Int),
  G1 h L xs ∧ G2 h n B ∧ G3 h cs e ∧ G4 h ks ke ∧ TKC h ∧ G5n h ∧ G5m h ∧ RDC h hr fo pl ∧ G7 h s A A2 T B ∧ G76 h ∧ MVN h ∧ G8n h ∧ G8m h ∧ G8b h ∧ (n ≤ 300 ∧ BY B ∧ s 4 = (n : Int)) ∧ FLT hr fo pl s ∧ PU cs e ∧ PU ks ke ∧ RA A cs e ∧ RA A2 ks ke ∧ TI h cs.tc cs.tx T ftf frf ncf rwf ∧ KX h cs.tc ks.tc cs.tx ks.tx ∧ 91 ≤ h.1
