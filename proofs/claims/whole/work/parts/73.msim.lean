/-! the reference: its reading of sums is the same -/
def KOM (B : Nat → Int) (n : Nat) (lw : Int) (t0 d m o mm i w0 : Nat) (p : List Int) (h : hc_H) (s T : Nat → Int) (r : cnR) (Q : List hc_V → hc_H → Prop) : Prop :=
  ∀ (j : Nat) (V : ef), r = .inr (j, V) → ∀ (h2 : hc_H) (s2 T2 f2 : Nat → Int) (w2 : Nat) (ops2 : List Int) (l2 : hc_V), MST B n h2 s2 T2 f2 t0 lw j w2 (ops2 ++ p) ((o : Int) - (mm : Int) + cnt ops2) 1 → PEN lw T2 (t0 + 75) w0 w2 ops2 (nit mm V) (bom m) → OPS m o ops2 → FE m (tK B n j) → (i ≤ j ∧ j ≤ 300 ∧ w2 + (ops2 ++ p).length ≤ j ∧ w0 ≤ w2) → TSM T T2 t0 w0 → ME mel s s2 → Fr mfl h h2 → LH d l2 h2 Q
def KFM (B : Nat → Int) (n : Nat) (t0 w0 : Nat) (h : hc_H) (s T : Nat → Int) (r : cnR) (Q : List hc_V → hc_H → Prop) : Prop :=
  ∀ (fl : Int) (k : Nat), r = .inl (fl, k) → ∀ (h2 : hc_H) (s2 T2 f2 : Nat → Int), h2.2.2 71 = mo s2 → h2.2.2 74 = ar 2720 T2 → h2.2.2 76 = ar 160 f2 → s2 8 = ((tP B n k : Nat) : Int) → ME mel s s2 → TSM T T2 t0 w0 → Fr mfl h h2 → Q [xI fl] h2
def CONM (B : Nat → Int) (n : Nat) (lw : Int) (t0 d f m : Nat) : Prop := ∀ (o : Nat) (v : ef) (i : Nat) (r : cnR), sP (tK B n) (tN B n) lw f m o v i = some r → ∀ (h : hc_H) (Q : List hc_V → hc_H → Prop) (s T fp : Nat → Int) (w w0 mm : Nat) (pre p : List Int) (l : hc_V),
  MST B n h s T fp t0 lw i w (pre ++ p) ((o : Int) + (bif lpm m then cnt pre else 0)) (bif lpm m then 1 else 0) →
  (o ≤ 8 ∧ mm ≤ o ∧ w + (pre ++ p).length ≤ i ∧ i ≤ 300 ∧ p.length + mm + mx m ≤ 6 * o + 5 ∧ w0 ≤ w ∧ t0 ≤ 2040) →
  HD p (hdm m) → (bom m = true → mkk p = 41) → (m = 0 → pre = List.replicate mm 2) → (m ≠ 0 → mm = 0) → (lpm m = false → w0 = w ∧ (m ≠ 0 → pre = [])) →
  (lpm m = true → OPS m o pre ∧ PEN lw T (t0 + 75) w0 w pre v (bom m) ∧ FS m (tK B n i)) →
  (bom m = false → lpm m = false → tK B n i = 22 → aah (pre ++ p) = false) →
  KOM B n lw t0 d m o mm i w0 p h s T r Q → KFM B n t0 w0 h s T r Q → LH d l h Q
theorem KFM.tr {B : Nat → Int} {n t0 w0 w1 : Nat} {h h1 : hc_H} {s s1 T T1 : Nat → Int} {r : cnR} {Q : List hc_V → hc_H → Prop} {fl : Int} {k : Nat} (kf : KFM B n t0 w0 h s T r Q) (er : r = .inl (fl, k)) (m1 : ME mel s s1) (t1 : TSM T T1 t0 w0) (f1 : Fr mfl h h1) (hw : w0 ≤ w1) : KFM B n t0 w1 h1 s1 T1 (.inl (fl, k)) Q := by
  intro fl2 k2 e h2 s2 T2 f2 a b c g m2 t2 f3
  cases e
  exact kf fl k er h2 s2 T2 f2 a b c g (m1.tr m2 (fun _ z => z)) (t1.tr t2 hw) (f1.tr f3 (fun _ z => z))
set_option maxRecDepth 100000 in
theorem cm_3 {B : Nat → Int} {n : Nat} {lw : Int} {t0 d : Nat} (H : BY B) (hn : n ≤ 300) (hlw : lw = 10 ∨ lw = 11) {f : Nat} (ih : ∀ m, m ≤ 9 → CONM B n lw t0 d f m) : CONM B n lw t0 d (f + 1) 3 := by
  intro o v i r hsp h Q s T fp w w0 mm pre p l M hb hd hm41 hpre0 hmm hnl hlp hna kok kf
  rw [sP_3] at hsp
  have x0 : mx 0 = 0 := rfl
  have x1 : mx 1 = 1 := rfl
  have x2 : mx 2 = 2 := rfl
  have x3 : mx 3 = 1 := rfl
  have x4 : mx 4 = 2 := rfl
  have x5 : mx 5 = 5 := rfl
  have x6 : mx 6 = 4 := rfl
  have x7 : mx 7 = 3 := rfl
  have x8 : mx 8 = 5 := rfl
  have x9 : mx 9 = 4 := rfl
  obtain ⟨rfl, hp0⟩ := hnl rfl
  obtain rfl := hp0 (by decide)
  obtain rfl := hmm (by decide)
  obtain ⟨q, hq, hsp⟩ := sb_some hsp
  rw [x3] at hb
  refine ih 0 (by decide) o v i q hq h Q s T fp w0 w0 0 [] p l M (by rw [x0]; omega) (hd.mono (by decide)) (fun z => absurd z (by decide)) (fun _ => rfl) (fun _ => rfl) (fun _ => ⟨rfl, fun _ => rfl⟩) (fun z => absurd z (by decide)) (fun z1 z2 z3 => hna rfl rfl z3) ?_ ?_
  · intro j V e h2 s2 T2 f2 w2 ops2 l2 M2 P2 O2 F2 B2 S2 ME2 FR2
    subst e
    dsimp only [sb] at hsp
    refine ih 1 (by decide) o V j r hsp h2 Q s2 T2 f2 w2 w0 0 ops2 p l2 (M2.cq (q2 := (o : Int) + cnt ops2) (by omega)) (by rw [x1]; omega) hd (fun z => absurd z (by decide)) (fun z => absurd z (by decide)) (fun _ => rfl) (fun z => absurd z (by decide)) (fun _ => ⟨⟨fun z hz => ⟨Int.le_trans (by decide) (O2.1 z hz).1, (O2.1 z hz).2⟩, by have := O2.2.1; rw [x0] at this; rw [x1]; omega, fun z => absurd z (by decide)⟩, P2, trivial⟩) (fun z1 z2 => absurd z2 (by decide)) ?_ ?_
    · intro j2 V2 e h3 s3 T3 f3 w3 ops3 l3 M3 P3 O3 F3 B3 S3 ME3 FR3
      exact kok j2 V2 e h3 s3 T3 f3 w3 ops3 l3 M3 P3 O3 F3 (by omega) (S2.tr S3 (Nat.le_refl _)) (ME2.tr ME3 (fun _ z => z)) (FR2.tr FR3 (fun _ z => z))
    · intro fl k e
      subst e
      exact (kf.tr rfl ME2 S2 FR2 (Nat.le_refl _)) fl k rfl
  · intro fl k e
    subst e
    dsimp only [sb] at hsp
    obtain rfl := Option.some.inj hsp
    exact kf fl k rfl
set_option maxRecDepth 100000 in
theorem cm_2 {B : Nat → Int} {n : Nat} {lw : Int} {t0 d : Nat} (H : BY B) (hn : n ≤ 300) (hlw : lw = 10 ∨ lw = 11) {f : Nat} (ih : ∀ m, m ≤ 9 → CONM B n lw t0 d f m) : CONM B n lw t0 d (f + 1) 2 := by
  intro o v i r hsp h Q s T fp w w0 mm pre p l M hb hd hm41 hpre0 hmm hnl hlp hna kok kf
  rw [sP_2] at hsp
  have x0 : mx 0 = 0 := rfl
  have x1 : mx 1 = 1 := rfl
  have x2 : mx 2 = 2 := rfl
  have x3 : mx 3 = 1 := rfl
  have x4 : mx 4 = 2 := rfl
  have x5 : mx 5 = 5 := rfl
  have x6 : mx 6 = 4 := rfl
  have x7 : mx 7 = 3 := rfl
  have x8 : mx 8 = 5 := rfl
  have x9 : mx 9 = 4 := rfl
  obtain ⟨rfl, hp0⟩ := hnl rfl
  obtain rfl := hp0 (by decide)
  obtain rfl := hmm (by decide)
  obtain ⟨q, hq, hsp⟩ := sb_some hsp
  rw [x2] at hb
  refine ih 3 (by decide) o v i q hq h Q s T fp w0 w0 0 [] p l M (by rw [x3]; omega) (hd.mono (by decide)) (fun z => absurd z (by decide)) (fun _ => rfl) (fun _ => rfl) (fun _ => ⟨rfl, fun _ => rfl⟩) (fun z => absurd z (by decide)) (fun z1 z2 z3 => hna rfl rfl z3) ?_ ?_
  · intro j V e h2 s2 T2 f2 w2 ops2 l2 M2 P2 O2 F2 B2 S2 ME2 FR2
    subst e
    dsimp only [sb] at hsp
    refine ih 4 (by decide) o V j r hsp h2 Q s2 T2 f2 w2 w0 0 ops2 p l2 (M2.cq (q2 := (o : Int) + cnt ops2) (by omega)) (by rw [x4]; omega) hd (fun z => absurd z (by decide)) (fun z => absurd z (by decide)) (fun _ => rfl) (fun z => absurd z (by decide)) (fun _ => ⟨⟨fun z hz => ⟨Int.le_trans (by decide) (O2.1 z hz).1, (O2.1 z hz).2⟩, by have := O2.2.1; rw [x3] at this; rw [x4]; omega, fun z => absurd z (by decide)⟩, P2, F2⟩) (fun z1 z2 => absurd z2 (by decide)) ?_ ?_
    · intro j2 V2 e h3 s3 T3 f3 w3 ops3 l3 M3 P3 O3 F3 B3 S3 ME3 FR3
      exact kok j2 V2 e h3 s3 T3 f3 w3 ops3 l3 M3 P3 O3 F3 (by omega) (S2.tr S3 (Nat.le_refl _)) (ME2.tr ME3 (fun _ z => z)) (FR2.tr FR3 (fun _ z => z))
    · intro fl k e
      subst e
      exact (kf.tr rfl ME2 S2 FR2 (Nat.le_refl _)) fl k rfl
  · intro fl k e
    subst e
    dsimp only [sb] at hsp
    obtain rfl := Option.some.inj hsp
    exact kf fl k rfl
set_option maxRecDepth 100000 in
theorem cm_5 {B : Nat → Int} {n : Nat} {lw : Int} {t0 d : Nat} (H : BY B) (hn : n ≤ 300) (hlw : lw = 10 ∨ lw = 11) {f : Nat} (ih : ∀ m, m ≤ 9 → CONM B n lw t0 d f m) : CONM B n lw t0 d (f + 1) 5 := by
  intro o v i r hsp h Q s T fp w w0 mm pre p l M hb hd hm41 hpre0 hmm hnl hlp hna kok kf
  rw [sP_5] at hsp
  have x0 : mx 0 = 0 := rfl
  have x1 : mx 1 = 1 := rfl
  have x2 : mx 2 = 2 := rfl
  have x3 : mx 3 = 1 := rfl
  have x4 : mx 4 = 2 := rfl
  have x5 : mx 5 = 5 := rfl
  have x6 : mx 6 = 4 := rfl
  have x7 : mx 7 = 3 := rfl
  have x8 : mx 8 = 5 := rfl
  have x9 : mx 9 = 4 := rfl
  obtain ⟨rfl, hp0⟩ := hnl rfl
  obtain rfl := hp0 (by decide)
  obtain rfl := hmm (by decide)
  obtain ⟨q, hq, hsp⟩ := sb_some hsp
  rw [x5] at hb
  refine ih 6 (by decide) o v i q hq h Q s T fp w0 w0 0 [] p l M (by rw [x6]; omega) (hd.mono (by decide)) (fun z => hm41 rfl) (fun _ => rfl) (fun _ => rfl) (fun _ => ⟨rfl, fun _ => rfl⟩) (fun z => absurd z (by decide)) (fun z1 z2 z3 => absurd z1 (by decide)) ?_ ?_
  · intro j V e h2 s2 T2 f2 w2 ops2 l2 M2 P2 O2 F2 B2 S2 ME2 FR2
    subst e
    dsimp only [sb] at hsp
    refine ih 8 (by decide) o V j r hsp h2 Q s2 T2 f2 w2 w0 0 ops2 p l2 (M2.cq (q2 := (o : Int) + cnt ops2) (by omega)) (by rw [x8]; omega) hd (fun _ => hm41 rfl) (fun z => absurd z (by decide)) (fun _ => rfl) (fun z => absurd z (by decide)) (fun _ => ⟨⟨fun z hz => ⟨Int.le_trans (by decide) (O2.1 z hz).1, (O2.1 z hz).2⟩, by have := O2.2.1; rw [x6] at this; rw [x8]; omega, fun z => O2.2.2 rfl⟩, P2, F2⟩) (fun z1 z2 => absurd z2 (by decide)) ?_ ?_
    · intro j2 V2 e h3 s3 T3 f3 w3 ops3 l3 M3 P3 O3 F3 B3 S3 ME3 FR3
      exact kok j2 V2 e h3 s3 T3 f3 w3 ops3 l3 M3 P3 O3 F3 (by omega) (S2.tr S3 (Nat.le_refl _)) (ME2.tr ME3 (fun _ z => z)) (FR2.tr FR3 (fun _ z => z))
    · intro fl k e
      subst e
      exact (kf.tr rfl ME2 S2 FR2 (Nat.le_refl _)) fl k rfl
  · intro fl k e
    subst e
    dsimp only [sb] at hsp
    obtain rfl := Option.some.inj hsp
    exact kf fl k rfl
set_option maxRecDepth 100000 in
theorem cm_6 {B : Nat → Int} {n : Nat} {lw : Int} {t0 d : Nat} (H : BY B) (hn : n ≤ 300) (hlw : lw = 10 ∨ lw = 11) {f : Nat} (ih : ∀ m, m ≤ 9 → CONM B n lw t0 d f m) : CONM B n lw t0 d (f + 1) 6 := by
  intro o v i r hsp h Q s T fp w w0 mm pre p l M hb hd hm41 hpre0 hmm hnl hlp hna kok kf
  rw [sP_6] at hsp
  have x0 : mx 0 = 0 := rfl
  have x1 : mx 1 = 1 := rfl
  have x2 : mx 2 = 2 := rfl
  have x3 : mx 3 = 1 := rfl
  have x4 : mx 4 = 2 := rfl
  have x5 : mx 5 = 5 := rfl
  have x6 : mx 6 = 4 := rfl
  have x7 : mx 7 = 3 := rfl
  have x8 : mx 8 = 5 := rfl
  have x9 : mx 9 = 4 := rfl
  obtain ⟨rfl, hp0⟩ := hnl rfl
  obtain rfl := hp0 (by decide)
  obtain rfl := hmm (by decide)
  obtain ⟨q, hq, hsp⟩ := sb_some hsp
  rw [x6] at hb
  refine ih 7 (by decide) o v i q hq h Q s T fp w0 w0 0 [] p l M (by rw [x7]; omega) (hd.mono (by decide)) (fun z => hm41 rfl) (fun _ => rfl) (fun _ => rfl) (fun _ => ⟨rfl, fun _ => rfl⟩) (fun z => absurd z (by decide)) (fun z1 z2 z3 => absurd z1 (by decide)) ?_ ?_
  · intro j V e h2 s2 T2 f2 w2 ops2 l2 M2 P2 O2 F2 B2 S2 ME2 FR2
    subst e
    dsimp only [sb] at hsp
    refine ih 9 (by decide) o V j r hsp h2 Q s2 T2 f2 w2 w0 0 ops2 p l2 (M2.cq (q2 := (o : Int) + cnt ops2) (by omega)) (by rw [x9]; omega) hd (fun _ => hm41 rfl) (fun z => absurd z (by decide)) (fun _ => rfl) (fun z => absurd z (by decide)) (fun _ => ⟨⟨fun z hz => ⟨Int.le_trans (by decide) (O2.1 z hz).1, (O2.1 z hz).2⟩, by have := O2.2.1; rw [x7] at this; rw [x9]; omega, fun z => O2.2.2 rfl⟩, P2, F2⟩) (fun z1 z2 => absurd z2 (by decide)) ?_ ?_
    · intro j2 V2 e h3 s3 T3 f3 w3 ops3 l3 M3 P3 O3 F3 B3 S3 ME3 FR3
      exact kok j2 V2 e h3 s3 T3 f3 w3 ops3 l3 M3 P3 O3 F3 (by omega) (S2.tr S3 (Nat.le_refl _)) (ME2.tr ME3 (fun _ z => z)) (FR2.tr FR3 (fun _ z => z))
    · intro fl k e
      subst e
      exact (kf.tr rfl ME2 S2 FR2 (Nat.le_refl _)) fl k rfl
  · intro fl k e
    subst e
    dsimp only [sb] at hsp
    obtain rfl := Option.some.inj hsp
    exact kf fl k rfl
set_option maxRecDepth 100000 in
theorem cm_1 {B : Nat → Int} {n : Nat} {lw : Int} {t0 d : Nat} (H : BY B) (hn : n ≤ 300) (hlw : lw = 10 ∨ lw = 11) {f : Nat} (ih : ∀ m, m ≤ 9 → CONM B n lw t0 d f m) : CONM B n lw t0 d (f + 1) 1 := by
  intro o v i r hsp h Q s T fp w w0 mm pre p l M hb hd hm41 hpre0 hmm hnl hlp hna kok kf
  rw [sP_1] at hsp
  have x0 : mx 0 = 0 := rfl
  have x1 : mx 1 = 1 := rfl
  have x2 : mx 2 = 2 := rfl
  have x3 : mx 3 = 1 := rfl
  have x4 : mx 4 = 2 := rfl
  have x5 : mx 5 = 5 := rfl
  have x6 : mx 6 = 4 := rfl
  have x7 : mx 7 = 3 := rfl
  have x8 : mx 8 = 5 := rfl
  have x9 : mx 9 = 4 := rfl
  obtain rfl := hmm (by decide)
  obtain ⟨OP, PE, FSS⟩ := hlp rfl
  have OPl := OP.2.1
  rw [x1] at hb OPl
  have hla : (pre ++ p).length = pre.length + p.length := List.length_append
  have hcb := cnt_bd pre
  have h40 : ∀ z, z ∈ pre → z < 40 := fun z hz => rkm_lt (Int.le_trans (by decide) (OP.1 z hz).1)
  by_cases c : 48 ≤ tK B n i ∧ tK B n i ≤ 49
  · rw [if_pos c] at hsp
    obtain ⟨q, hq, hsp⟩ := sb_some hsp
    have hKv : (40 ≤ tK B n i ∧ tK B n i ≤ 49) ∨ tK B n i = 20 ∨ tK B n i = 21 := by omega
    have hk := kcd_rk hKv
    have hkr : rkm (kcd (tK B n i)) = 6 := by rw [hk.1]; rw [if_pos (by omega)]
    have hlt := tK_lt H hn (show tK B n i ≠ 0 by omega)
    have hx : bto (tK B n i) (pre ++ p) = kcd (tK B n i) := by
      unfold bto kcd
      rw [if_pos (by omega), if_pos (by omega)]
    refine lh_beh M.1 M.2.2.2.2.2.2.2.2.2.1 ?_
    refine c_bop (K := tK B n i) (x := kcd (tK B n i)) (ops := pre) (rest := p) H hn rfl M hx hk.2.2.2.1 (fun z hz => by rw [hkr]; exact (OP.1 z hz).1) (by rw [hkr]; exact hd) ⟨hb.2.2.1, by omega, by omega, by show -1000 ≤ (o : Int) + cnt pre; omega, by show (o : Int) + cnt pre ≤ 1000; omega, hb.2.2.2.2.2.2⟩ ?_
    intro h2 s2 T2 f2 M2 SA CD ME2 FR2
    refine lh_one ?_
    have PCa := PE.pc SA CD
    have TS2 : TSM T T2 t0 w0 := SA.ts (by omega) (by omega)
    have M2b : MST B n h2 s2 T2 f2 t0 lw (i + 1) (w + pre.length) ([] ++ kcd (tK B n i) :: p) ((o : Int) + 0) 0 := M2.cq (by show (o : Int) + cnt pre - cnt pre = _; omega)
    refine ih 0 (by decide) o v (i + 1) q hq h2 Q s2 T2 f2 (w + pre.length) (w + pre.length) 0 [] (kcd (tK B n i) :: p) l M2b (by rw [x0, List.nil_append, List.length_cons]; omega) (HD_c (by rw [hkr]; decide)) (fun z => absurd z (by decide)) (fun _ => rfl) (fun _ => rfl) (fun _ => ⟨rfl, fun _ => rfl⟩) (fun z => absurd z (by decide)) (fun z1 z2 z3 => by unfold aah; simp only [List.nil_append]; rw [hkr, decide_eq_false (show ¬ kcd (tK B n i) = 41 by omega), decide_eq_false (show ¬ ((1 : Int) ≤ 6 ∧ (6 : Int) ≤ 3) by decide)]; simp) ?_ ?_
    · intro j V e h3 s3 T3 f3 w3 ops3 l3 M3 P3 O3 F3 B3 S3 ME3 FR3
      subst e
      dsimp only [sb] at hsp
      have O3l := O3.2.1
      rw [x0] at O3l
      have hl3 : (ops3 ++ kcd (tK B n i) :: p).length = ops3.length + (p.length + 1) := by rw [List.length_append, List.length_cons]
      have hl4 : ((ops3 ++ [kcd (tK B n i)]) ++ p).length = ops3.length + (p.length + 1) := by rw [← apx]; exact hl3
      have hl5 : (ops3 ++ [kcd (tK B n i)]).length = ops3.length + 1 := List.length_append
      refine ih 1 (by decide) o (op2 (tK B n i) v V) j r hsp h3 Q s3 T3 f3 w3 w0 0 (ops3 ++ [kcd (tK B n i)]) p l3 ((M3.cp apx).cq (q2 := (o : Int) + cnt (ops3 ++ [kcd (tK B n i)])) (by rw [cnt_k hKv]; omega)) (by rw [x1]; omega) hd (fun z => absurd z (by decide)) (fun z => absurd z (by decide)) (fun _ => rfl) (fun z => absurd z (by decide)) (fun _ => ⟨⟨?_, ?_, ?_⟩, ?_, trivial⟩) (fun z1 z2 => absurd z2 (by decide)) ?_ ?_
      · intro z hz
        rcases mem_app hz with y | y
        · exact ⟨Int.le_trans (by decide) (O3.1 z y).1, (O3.1 z y).2⟩
        · rw [List.mem_singleton.1 y, hkr]
          decide
      · rw [x1, hl5]
        omega
      · intro z
        exact absurd z (by decide)
      · have hPC : PC lw T3 (t0 + 75) w0 (w + pre.length) v (bkd (tK B n i)) := by
          rw [show bkd (tK B n i) = false from decide_eq_false (by omega)]
          exact PCa.eq (fun x h1 h2 => S3 x (Or.inl h2))
        have hP3 : PEN lw T3 (t0 + 75) (w + pre.length) w3 ops3 V (bkd (tK B n i)) := by
          rw [show bkd (tK B n i) = false from decide_eq_false (by omega)]
          exact P3
        have := PEN_bin hPC hP3 B3.2.2.2 hKv
        rw [show bkr (tK B n i) = false from decide_eq_false (by omega)] at this
        skip
        exact this
      · intro j2 V2 e h4 s4 T4 f4 w4 ops4 l4 M4 P4 O4 F4 B4 S4 ME4 FR4
        exact kok j2 V2 e h4 s4 T4 f4 w4 ops4 l4 M4 P4 O4 F4 (by omega) ((TS2.tr S3 (by omega)).tr S4 (Nat.le_refl _)) ((ME2.tr ME3 (fun _ z => z)).tr ME4 (fun _ z => z)) ((FR2.tr FR3 (fun _ z => z)).tr FR4 (fun _ z => z))
      · intro fl k e
        subst e
        exact (kf.tr rfl (ME2.tr ME3 (fun _ z => z)) (TS2.tr S3 (by omega)) (FR2.tr FR3 (fun _ z => z)) (Nat.le_refl _)) fl k rfl
    · intro fl k e
      subst e
      dsimp only [sb] at hsp
      obtain rfl := Option.some.inj hsp
      exact (kf.tr rfl ME2 TS2 FR2 (by omega)) fl k rfl
  · rw [if_neg c] at hsp
    obtain rfl := Option.some.inj hsp
    exact kok i v rfl h s T fp w pre l (M.cq (q2 := (o : Int) - ((0 : Nat) : Int) + cnt pre) (by show (o : Int) + cnt pre = _; omega)) PE OP c (by omega) (fun _ _ => rfl) ME.rf Fr.rf
set_option maxRecDepth 100000 in
theorem cm_4 {B : Nat → Int} {n : Nat} {lw : Int} {t0 d : Nat} (H : BY B) (hn : n ≤ 300) (hlw : lw = 10 ∨ lw = 11) {f : Nat} (ih : ∀ m, m ≤ 9 → CONM B n lw t0 d f m) : CONM B n lw t0 d (f + 1) 4 := by
  intro o v i r hsp h Q s T fp w w0 mm pre p l M hb hd hm41 hpre0 hmm hnl hlp hna kok kf
  rw [sP_4] at hsp
  have x0 : mx 0 = 0 := rfl
  have x1 : mx 1 = 1 := rfl
  have x2 : mx 2 = 2 := rfl
  have x3 : mx 3 = 1 := rfl
  have x4 : mx 4 = 2 := rfl
  have x5 : mx 5 = 5 := rfl
  have x6 : mx 6 = 4 := rfl
  have x7 : mx 7 = 3 := rfl
  have x8 : mx 8 = 5 := rfl
  have x9 : mx 9 = 4 := rfl
  obtain rfl := hmm (by decide)
  obtain ⟨OP, PE, FSS⟩ := hlp rfl
  have OPl := OP.2.1
  rw [x4] at hb OPl
  have hla : (pre ++ p).length = pre.length + p.length := List.length_append
  have hcb := cnt_bd pre
  have h40 : ∀ z, z ∈ pre → z < 40 := fun z hz => rkm_lt (Int.le_trans (by decide) (OP.1 z hz).1)
  by_cases c : 46 ≤ tK B n i ∧ tK B n i ≤ 47
  · rw [if_pos c] at hsp
    obtain ⟨q, hq, hsp⟩ := sb_some hsp
    have hKv : (40 ≤ tK B n i ∧ tK B n i ≤ 49) ∨ tK B n i = 20 ∨ tK B n i = 21 := by omega
    have hk := kcd_rk hKv
    have hkr : rkm (kcd (tK B n i)) = 5 := by rw [hk.1]; rw [if_neg (by omega), if_pos (by omega)]
    have hlt := tK_lt H hn (show tK B n i ≠ 0 by omega)
    have hx : bto (tK B n i) (pre ++ p) = kcd (tK B n i) := by
      unfold bto kcd
      rw [if_pos (by omega), if_pos (by omega)]
    refine lh_beh M.1 M.2.2.2.2.2.2.2.2.2.1 ?_
    refine c_bop (K := tK B n i) (x := kcd (tK B n i)) (ops := pre) (rest := p) H hn rfl M hx hk.2.2.2.1 (fun z hz => by rw [hkr]; exact (OP.1 z hz).1) (by rw [hkr]; exact hd) ⟨hb.2.2.1, by omega, by omega, by show -1000 ≤ (o : Int) + cnt pre; omega, by show (o : Int) + cnt pre ≤ 1000; omega, hb.2.2.2.2.2.2⟩ ?_
    intro h2 s2 T2 f2 M2 SA CD ME2 FR2
    refine lh_one ?_
    have PCa := PE.pc SA CD
    have TS2 : TSM T T2 t0 w0 := SA.ts (by omega) (by omega)
    have M2b : MST B n h2 s2 T2 f2 t0 lw (i + 1) (w + pre.length) ([] ++ kcd (tK B n i) :: p) ((o : Int) + 0) 0 := M2.cq (by show (o : Int) + cnt pre - cnt pre = _; omega)
    refine ih 3 (by decide) o v (i + 1) q hq h2 Q s2 T2 f2 (w + pre.length) (w + pre.length) 0 [] (kcd (tK B n i) :: p) l M2b (by rw [x3, List.nil_append, List.length_cons]; omega) (HD_c (by rw [hkr]; decide)) (fun z => absurd z (by decide)) (fun _ => rfl) (fun _ => rfl) (fun _ => ⟨rfl, fun _ => rfl⟩) (fun z => absurd z (by decide)) (fun z1 z2 z3 => by unfold aah; simp only [List.nil_append]; rw [hkr, decide_eq_false (show ¬ kcd (tK B n i) = 41 by omega), decide_eq_false (show ¬ ((1 : Int) ≤ 5 ∧ (5 : Int) ≤ 3) by decide)]; simp) ?_ ?_
    · intro j V e h3 s3 T3 f3 w3 ops3 l3 M3 P3 O3 F3 B3 S3 ME3 FR3
      subst e
      dsimp only [sb] at hsp
      have O3l := O3.2.1
      rw [x3] at O3l
      have hl3 : (ops3 ++ kcd (tK B n i) :: p).length = ops3.length + (p.length + 1) := by rw [List.length_append, List.length_cons]
      have hl4 : ((ops3 ++ [kcd (tK B n i)]) ++ p).length = ops3.length + (p.length + 1) := by rw [← apx]; exact hl3
      have hl5 : (ops3 ++ [kcd (tK B n i)]).length = ops3.length + 1 := List.length_append
      refine ih 4 (by decide) o (op2 (tK B n i) v V) j r hsp h3 Q s3 T3 f3 w3 w0 0 (ops3 ++ [kcd (tK B n i)]) p l3 ((M3.cp apx).cq (q2 := (o : Int) + cnt (ops3 ++ [kcd (tK B n i)])) (by rw [cnt_k hKv]; omega)) (by rw [x4]; omega) hd (fun z => absurd z (by decide)) (fun z => absurd z (by decide)) (fun _ => rfl) (fun z => absurd z (by decide)) (fun _ => ⟨⟨?_, ?_, ?_⟩, ?_, F3⟩) (fun z1 z2 => absurd z2 (by decide)) ?_ ?_
      · intro z hz
        rcases mem_app hz with y | y
        · exact ⟨Int.le_trans (by decide) (O3.1 z y).1, (O3.1 z y).2⟩
        · rw [List.mem_singleton.1 y, hkr]
          decide
      · rw [x4, hl5]
        omega
      · intro z
        exact absurd z (by decide)
      · have hPC : PC lw T3 (t0 + 75) w0 (w + pre.length) v (bkd (tK B n i)) := by
          rw [show bkd (tK B n i) = false from decide_eq_false (by omega)]
          exact PCa.eq (fun x h1 h2 => S3 x (Or.inl h2))
        have hP3 : PEN lw T3 (t0 + 75) (w + pre.length) w3 ops3 V (bkd (tK B n i)) := by
          rw [show bkd (tK B n i) = false from decide_eq_false (by omega)]
          exact P3
        have := PEN_bin hPC hP3 B3.2.2.2 hKv
        rw [show bkr (tK B n i) = false from decide_eq_false (by omega)] at this
        skip
        exact this
      · intro j2 V2 e h4 s4 T4 f4 w4 ops4 l4 M4 P4 O4 F4 B4 S4 ME4 FR4
        exact kok j2 V2 e h4 s4 T4 f4 w4 ops4 l4 M4 P4 O4 F4 (by omega) ((TS2.tr S3 (by omega)).tr S4 (Nat.le_refl _)) ((ME2.tr ME3 (fun _ z => z)).tr ME4 (fun _ z => z)) ((FR2.tr FR3 (fun _ z => z)).tr FR4 (fun _ z => z))
      · intro fl k e
        subst e
        exact (kf.tr rfl (ME2.tr ME3 (fun _ z => z)) (TS2.tr S3 (by omega)) (FR2.tr FR3 (fun _ z => z)) (Nat.le_refl _)) fl k rfl
    · intro fl k e
      subst e
      dsimp only [sb] at hsp
      obtain rfl := Option.some.inj hsp
      exact (kf.tr rfl ME2 TS2 FR2 (by omega)) fl k rfl
  · rw [if_neg c] at hsp
    obtain rfl := Option.some.inj hsp
    exact kok i v rfl h s T fp w pre l (M.cq (q2 := (o : Int) - ((0 : Nat) : Int) + cnt pre) (by show (o : Int) + cnt pre = _; omega)) PE OP (by have z : ¬ (48 ≤ tK B n i ∧ tK B n i ≤ 49) := FSS; show ¬ (46 ≤ tK B n i ∧ tK B n i ≤ 49); omega) (by omega) (fun _ _ => rfl) ME.rf Fr.rf
set_option maxRecDepth 100000 in
theorem cm_9 {B : Nat → Int} {n : Nat} {lw : Int} {t0 d : Nat} (H : BY B) (hn : n ≤ 300) (hlw : lw = 10 ∨ lw = 11) {f : Nat} (ih : ∀ m, m ≤ 9 → CONM B n lw t0 d f m) : CONM B n lw t0 d (f + 1) 9 := by
  intro o v i r hsp h Q s T fp w w0 mm pre p l M hb hd hm41 hpre0 hmm hnl hlp hna kok kf
  rw [sP_9] at hsp
  have x0 : mx 0 = 0 := rfl
  have x1 : mx 1 = 1 := rfl
  have x2 : mx 2 = 2 := rfl
  have x3 : mx 3 = 1 := rfl
  have x4 : mx 4 = 2 := rfl
  have x5 : mx 5 = 5 := rfl
  have x6 : mx 6 = 4 := rfl
  have x7 : mx 7 = 3 := rfl
  have x8 : mx 8 = 5 := rfl
  have x9 : mx 9 = 4 := rfl
  obtain rfl := hmm (by decide)
  obtain ⟨OP, PE, FSS⟩ := hlp rfl
  have OPl := OP.2.1
  rw [x9] at hb OPl
  have hla : (pre ++ p).length = pre.length + p.length := List.length_append
  have hcb := cnt_bd pre
  have h40 : ∀ z, z ∈ pre → z < 40 := fun z hz => rkm_lt (Int.le_trans (by decide) (OP.1 z hz).1)
  by_cases c : tK B n i = 21
  · rw [if_pos c] at hsp
    obtain ⟨q, hq, hsp⟩ := sb_some hsp
    have hKv : (40 ≤ tK B n i ∧ tK B n i ≤ 49) ∨ tK B n i = 20 ∨ tK B n i = 21 := by omega
    have hk := kcd_rk hKv
    have hkr : rkm (kcd (tK B n i)) = 2 := by rw [hk.1]; rw [c]; rfl
    have hlt := tK_lt H hn (show tK B n i ≠ 0 by omega)
    have hx : bto (tK B n i) (pre ++ p) = kcd (tK B n i) := by
      unfold bto
      rw [c, if_neg (by omega), kop_41 (hm41 rfl) h40, if_pos rfl, if_pos (cmq_app pre (OP.2.2 rfl)), if_pos rfl]
      rfl
    refine lh_beh M.1 M.2.2.2.2.2.2.2.2.2.1 ?_
    refine c_bop (K := tK B n i) (x := kcd (tK B n i)) (ops := pre) (rest := p) H hn rfl M hx hk.2.2.2.1 (fun z hz => by rw [hkr]; exact (OP.1 z hz).1) (by rw [hkr]; exact hd) ⟨hb.2.2.1, by omega, by omega, by show -1000 ≤ (o : Int) + cnt pre; omega, by show (o : Int) + cnt pre ≤ 1000; omega, hb.2.2.2.2.2.2⟩ ?_
    intro h2 s2 T2 f2 M2 SA CD ME2 FR2
    refine lh_one ?_
    have PCa := PE.pc SA CD
    have TS2 : TSM T T2 t0 w0 := SA.ts (by omega) (by omega)
    have M2b : MST B n h2 s2 T2 f2 t0 lw (i + 1) (w + pre.length) ([] ++ kcd (tK B n i) :: p) ((o : Int) + 0) 0 := M2.cq (by show (o : Int) + cnt pre - cnt pre = _; omega)
    refine ih 7 (by decide) o v (i + 1) q hq h2 Q s2 T2 f2 (w + pre.length) (w + pre.length) 0 [] (kcd (tK B n i) :: p) l M2b (by rw [x7, List.nil_append, List.length_cons]; omega) (HD_c (by rw [hkr]; decide)) (fun z => by rw [mkk, if_neg (by omega)]; exact hm41 rfl) (fun _ => rfl) (fun _ => rfl) (fun _ => ⟨rfl, fun _ => rfl⟩) (fun z => absurd z (by decide)) (fun z1 z2 z3 => absurd z1 (by decide)) ?_ ?_
    · intro j V e h3 s3 T3 f3 w3 ops3 l3 M3 P3 O3 F3 B3 S3 ME3 FR3
      subst e
      dsimp only [sb] at hsp
      have O3l := O3.2.1
      rw [x7] at O3l
      have hl3 : (ops3 ++ kcd (tK B n i) :: p).length = ops3.length + (p.length + 1) := by rw [List.length_append, List.length_cons]
      have hl4 : ((ops3 ++ [kcd (tK B n i)]) ++ p).length = ops3.length + (p.length + 1) := by rw [← apx]; exact hl3
      have hl5 : (ops3 ++ [kcd (tK B n i)]).length = ops3.length + 1 := List.length_append
      refine ih 9 (by decide) o (op2 21 v V) j r hsp h3 Q s3 T3 f3 w3 w0 0 (ops3 ++ [kcd (tK B n i)]) p l3 ((M3.cp apx).cq (q2 := (o : Int) + cnt (ops3 ++ [kcd (tK B n i)])) (by rw [cnt_k hKv]; omega)) (by rw [x9]; omega) hd (fun _ => hm41 rfl) (fun z => absurd z (by decide)) (fun _ => rfl) (fun z => absurd z (by decide)) (fun _ => ⟨⟨?_, ?_, ?_⟩, ?_, F3⟩) (fun z1 z2 => absurd z2 (by decide)) ?_ ?_
      · intro z hz
        rcases mem_app hz with y | y
        · exact ⟨Int.le_trans (by decide) (O3.1 z y).1, (O3.1 z y).2⟩
        · rw [List.mem_singleton.1 y, hkr]
          decide
      · rw [x9, hl5]
        omega
      · intro z
        exact cmq_app ops3 (O3.2.2 rfl)
      · have hPC : PC lw T3 (t0 + 75) w0 (w + pre.length) v (bkd (tK B n i)) := by
          rw [show bkd (tK B n i) = true from decide_eq_true (by omega)]
          exact PCa.eq (fun x h1 h2 => S3 x (Or.inl h2))
        have hP3 : PEN lw T3 (t0 + 75) (w + pre.length) w3 ops3 V (bkd (tK B n i)) := by
          rw [show bkd (tK B n i) = true from decide_eq_true (by omega)]
          exact P3
        have := PEN_bin hPC hP3 B3.2.2.2 hKv
        rw [show bkr (tK B n i) = true from decide_eq_true (by omega)] at this
        rw [show op2 (tK B n i) v V = op2 21 v V by rw [c]] at this
        exact this
      · intro j2 V2 e h4 s4 T4 f4 w4 ops4 l4 M4 P4 O4 F4 B4 S4 ME4 FR4
        exact kok j2 V2 e h4 s4 T4 f4 w4 ops4 l4 M4 P4 O4 F4 (by omega) ((TS2.tr S3 (by omega)).tr S4 (Nat.le_refl _)) ((ME2.tr ME3 (fun _ z => z)).tr ME4 (fun _ z => z)) ((FR2.tr FR3 (fun _ z => z)).tr FR4 (fun _ z => z))
      · intro fl k e
        subst e
        exact (kf.tr rfl (ME2.tr ME3 (fun _ z => z)) (TS2.tr S3 (by omega)) (FR2.tr FR3 (fun _ z => z)) (Nat.le_refl _)) fl k rfl
    · intro fl k e
      subst e
      dsimp only [sb] at hsp
      obtain rfl := Option.some.inj hsp
      exact (kf.tr rfl ME2 TS2 FR2 (by omega)) fl k rfl
  · rw [if_neg c] at hsp
    obtain rfl := Option.some.inj hsp
    exact kok i v rfl h s T fp w pre l (M.cq (q2 := (o : Int) - ((0 : Nat) : Int) + cnt pre) (by show (o : Int) + cnt pre = _; omega)) PE OP ⟨FSS, c⟩ (by omega) (fun _ _ => rfl) ME.rf Fr.rf
set_option maxRecDepth 100000 in
theorem cm_8 {B : Nat → Int} {n : Nat} {lw : Int} {t0 d : Nat} (H : BY B) (hn : n ≤ 300) (hlw : lw = 10 ∨ lw = 11) {f : Nat} (ih : ∀ m, m ≤ 9 → CONM B n lw t0 d f m) : CONM B n lw t0 d (f + 1) 8 := by
  intro o v i r hsp h Q s T fp w w0 mm pre p l M hb hd hm41 hpre0 hmm hnl hlp hna kok kf
  rw [sP_8] at hsp
  have x0 : mx 0 = 0 := rfl
  have x1 : mx 1 = 1 := rfl
  have x2 : mx 2 = 2 := rfl
  have x3 : mx 3 = 1 := rfl
  have x4 : mx 4 = 2 := rfl
  have x5 : mx 5 = 5 := rfl
  have x6 : mx 6 = 4 := rfl
  have x7 : mx 7 = 3 := rfl
  have x8 : mx 8 = 5 := rfl
  have x9 : mx 9 = 4 := rfl
  obtain rfl := hmm (by decide)
  obtain ⟨OP, PE, FSS⟩ := hlp rfl
  have OPl := OP.2.1
  rw [x8] at hb OPl
  have hla : (pre ++ p).length = pre.length + p.length := List.length_append
  have hcb := cnt_bd pre
  have h40 : ∀ z, z ∈ pre → z < 40 := fun z hz => rkm_lt (Int.le_trans (by decide) (OP.1 z hz).1)
  by_cases c : tK B n i = 20
  · rw [if_pos c] at hsp
    obtain ⟨q, hq, hsp⟩ := sb_some hsp
    have hKv : (40 ≤ tK B n i ∧ tK B n i ≤ 49) ∨ tK B n i = 20 ∨ tK B n i = 21 := by omega
    have hk := kcd_rk hKv
    have hkr : rkm (kcd (tK B n i)) = 1 := by rw [hk.1]; rw [c]; rfl
    have hlt := tK_lt H hn (show tK B n i ≠ 0 by omega)
    have hx : bto (tK B n i) (pre ++ p) = kcd (tK B n i) := by
      unfold bto
      rw [c, if_neg (by omega), kop_41 (hm41 rfl) h40, if_pos rfl, if_pos (cmq_app pre (OP.2.2 rfl)), if_neg (by decide), if_pos rfl]
      rfl
    refine lh_beh M.1 M.2.2.2.2.2.2.2.2.2.1 ?_
    refine c_bop (K := tK B n i) (x := kcd (tK B n i)) (ops := pre) (rest := p) H hn rfl M hx hk.2.2.2.1 (fun z hz => by rw [hkr]; exact (OP.1 z hz).1) (by rw [hkr]; exact hd) ⟨hb.2.2.1, by omega, by omega, by show -1000 ≤ (o : Int) + cnt pre; omega, by show (o : Int) + cnt pre ≤ 1000; omega, hb.2.2.2.2.2.2⟩ ?_
    intro h2 s2 T2 f2 M2 SA CD ME2 FR2
    refine lh_one ?_
    have PCa := PE.pc SA CD
    have TS2 : TSM T T2 t0 w0 := SA.ts (by omega) (by omega)
    have M2b : MST B n h2 s2 T2 f2 t0 lw (i + 1) (w + pre.length) ([] ++ kcd (tK B n i) :: p) ((o : Int) + 0) 0 := M2.cq (by show (o : Int) + cnt pre - cnt pre = _; omega)
    refine ih 6 (by decide) o v (i + 1) q hq h2 Q s2 T2 f2 (w + pre.length) (w + pre.length) 0 [] (kcd (tK B n i) :: p) l M2b (by rw [x6, List.nil_append, List.length_cons]; omega) (HD_c (by rw [hkr]; decide)) (fun z => by rw [mkk, if_neg (by omega)]; exact hm41 rfl) (fun _ => rfl) (fun _ => rfl) (fun _ => ⟨rfl, fun _ => rfl⟩) (fun z => absurd z (by decide)) (fun z1 z2 z3 => absurd z1 (by decide)) ?_ ?_
    · intro j V e h3 s3 T3 f3 w3 ops3 l3 M3 P3 O3 F3 B3 S3 ME3 FR3
      subst e
      dsimp only [sb] at hsp
      have O3l := O3.2.1
      rw [x6] at O3l
      have hl3 : (ops3 ++ kcd (tK B n i) :: p).length = ops3.length + (p.length + 1) := by rw [List.length_append, List.length_cons]
      have hl4 : ((ops3 ++ [kcd (tK B n i)]) ++ p).length = ops3.length + (p.length + 1) := by rw [← apx]; exact hl3
      have hl5 : (ops3 ++ [kcd (tK B n i)]).length = ops3.length + 1 := List.length_append
      refine ih 8 (by decide) o (op2 20 v V) j r hsp h3 Q s3 T3 f3 w3 w0 0 (ops3 ++ [kcd (tK B n i)]) p l3 ((M3.cp apx).cq (q2 := (o : Int) + cnt (ops3 ++ [kcd (tK B n i)])) (by rw [cnt_k hKv]; omega)) (by rw [x8]; omega) hd (fun _ => hm41 rfl) (fun z => absurd z (by decide)) (fun _ => rfl) (fun z => absurd z (by decide)) (fun _ => ⟨⟨?_, ?_, ?_⟩, ?_, F3⟩) (fun z1 z2 => absurd z2 (by decide)) ?_ ?_
      · intro z hz
        rcases mem_app hz with y | y
        · exact ⟨Int.le_trans (by decide) (O3.1 z y).1, (O3.1 z y).2⟩
        · rw [List.mem_singleton.1 y, hkr]
          decide
      · rw [x8, hl5]
        omega
      · intro z
        exact cmq_app ops3 (O3.2.2 rfl)
      · have hPC : PC lw T3 (t0 + 75) w0 (w + pre.length) v (bkd (tK B n i)) := by
          rw [show bkd (tK B n i) = true from decide_eq_true (by omega)]
          exact PCa.eq (fun x h1 h2 => S3 x (Or.inl h2))
        have hP3 : PEN lw T3 (t0 + 75) (w + pre.length) w3 ops3 V (bkd (tK B n i)) := by
          rw [show bkd (tK B n i) = true from decide_eq_true (by omega)]
          exact P3
        have := PEN_bin hPC hP3 B3.2.2.2 hKv
        rw [show bkr (tK B n i) = true from decide_eq_true (by omega)] at this
        rw [show op2 (tK B n i) v V = op2 20 v V by rw [c]] at this
        exact this
      · intro j2 V2 e h4 s4 T4 f4 w4 ops4 l4 M4 P4 O4 F4 B4 S4 ME4 FR4
        exact kok j2 V2 e h4 s4 T4 f4 w4 ops4 l4 M4 P4 O4 F4 (by omega) ((TS2.tr S3 (by omega)).tr S4 (Nat.le_refl _)) ((ME2.tr ME3 (fun _ z => z)).tr ME4 (fun _ z => z)) ((FR2.tr FR3 (fun _ z => z)).tr FR4 (fun _ z => z))
      · intro fl k e
        subst e
        exact (kf.tr rfl (ME2.tr ME3 (fun _ z => z)) (TS2.tr S3 (by omega)) (FR2.tr FR3 (fun _ z => z)) (Nat.le_refl _)) fl k rfl
    · intro fl k e
      subst e
      dsimp only [sb] at hsp
      obtain rfl := Option.some.inj hsp
      exact (kf.tr rfl ME2 TS2 FR2 (by omega)) fl k rfl
  · rw [if_neg c] at hsp
    obtain rfl := Option.some.inj hsp
    exact kok i v rfl h s T fp w pre l (M.cq (q2 := (o : Int) - ((0 : Nat) : Int) + cnt pre) (by show (o : Int) + cnt pre = _; omega)) PE OP ⟨FSS.1, FSS.2, c⟩ (by omega) (fun _ _ => rfl) ME.rf Fr.rf
