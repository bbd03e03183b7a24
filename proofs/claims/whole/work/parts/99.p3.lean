/-! marrying: what has been found so far -/
def UPD (v : Int) (w : Nat → Int) (l0 : Int) (b0 : Nat → Int) (l : Int) (b : Nat → Int) : Prop := (v < l0 → l = v ∧ ∀ k, k < 8 → b k = w k) ∧ (¬ v < l0 → l = l0 ∧ b = b0)
def wco (ch pt : Nat → Int) (nf R o : Nat) : Nat → Int := (pit ch (clr (clr R o) (tz R)) (hc_u (hc_u pt (tz R) (o : Int)) o ((tz R : Nat) : Int)) nf).2
def PG (lw ls ch pt : Nat → Int) (nf R : Nat) (v0 base l0 : Int) (b0 : Nat → Int) (c : Nat) (l : Int) (b : Nat → Int) : Prop :=
  (c < nf ∧ (((mst lw ls (clr R (tz R)) (tz R) v0 (c + 1)).1 = -1 ∧ l = l0 ∧ b = b0) ∨ ∃ o : Nat, (mst lw ls (clr R (tz R)) (tz R) v0 (c + 1)).1 = (o : Int) ∧ o < nf ∧ UPD (base + (mst lw ls (clr R (tz R)) (tz R) v0 (c + 1)).2) (wco ch pt nf R o) l0 b0 l b)) ∨ (c = nf ∧ UPD (base + ls R) (pit ch R pt nf).2 l0 b0 l b)
theorem upd_lt {x y : Int} {w w2 : Nat → Int} {l0 l l2 : Int} {b0 b b2 : Nat → Int} (H : UPD x w l0 b0 l b) (H2 : UPD y w2 l b l2 b2) (h : y < x) : UPD y w2 l0 b0 l2 b2 := by
  by_cases c : x < l0
  · have e := H.1 c
    have e2 := H2.1 (by omega)
    exact ⟨fun _ => e2, fun z => absurd (show y < l0 by omega) z⟩
  · have e := H.2 c
    rw [e.1, e.2] at H2
    exact H2
theorem upd_ge {x y : Int} {w w2 : Nat → Int} {l0 l l2 : Int} {b0 b b2 : Nat → Int} (H : UPD x w l0 b0 l b) (H2 : UPD y w2 l b l2 b2) (h : ¬ y < x) : UPD x w l0 b0 l2 b2 := by
  by_cases c : x < l0
  · have e := H.1 c
    have e2 := H2.2 (by omega)
    rw [e2.1, e2.2]
    exact H
  · have e := H.2 c
    have e2 := H2.2 (by omega)
    rw [e2.1, e2.2]
    exact H
theorem pg_go {lwc lwr ls ch pt b0 b b2 : Nat → Int} {nf R c q : Nat} {v0 base l0 l l2 : Int} (hn : nf ≤ 8) (h1 : 1 ≤ R) (hR : R < 256) (hpn : tz R < nf) (hpc : tz R ≤ c) (hcn : c < nf) (hlw : ∀ a b, a ≤ b → b < nf → lwc (a * 8 + b) = lwr (8 * a + b)) (hv : (ch R, ls R) = mfv lwc ls v0 R nf) (hF : FR nf R pt) (hP : PAR nf R pt) (hc : cnm nf (tz R) (c + 1) pt) (hq : mqq nf (tz R) (c + 1) = q) (H : PG lwc ls ch pt nf R v0 base l0 b0 c l b) (H2 : UPD (base + lwr (8 * tz R + q) + ls (clr (clr R q) (tz R))) (wco ch pt nf R q) l b l2 b2) : PG lwc ls ch pt nf R v0 base l0 b0 (c + 1) l2 b2 := by
  have hz := tz_at h1 hR
  have H0 : ((mst lwc ls (clr R (tz R)) (tz R) v0 (c + 1)).1 = -1 ∧ l = l0 ∧ b = b0) ∨ ∃ o : Nat, (mst lwc ls (clr R (tz R)) (tz R) v0 (c + 1)).1 = (o : Int) ∧ o < nf ∧ UPD (base + (mst lwc ls (clr R (tz R)) (tz R) v0 (c + 1)).2) (wco ch pt nf R o) l0 b0 l b := by
    cases H with
    | inl y => exact y.2
    | inr y => exact absurd y.1 (by omega)
  by_cases z : c + 1 = nf
  · have hqp : q = tz R := by rw [← hq]; exact if_pos z
    have hodd : cnb R 8 % 2 = 1 := by
      cases hc with
      | inl y => exact absurd y.1 (by omega)
      | inr y => exact hP.2 y.2
    rw [z] at H0
    rw [hqp, ← hlw (tz R) (tz R) (Nat.le_refl _) hpn, show clr (clr R (tz R)) (tz R) = clr R (tz R) from by
      have : ¬ Nat.testBit (clr R (tz R)) (tz R) = true := by
        rw [clr_bit hR hz.1, decide_eq_true rfl, Bool.not_true, Bool.and_false]
        decide
      rw [clr, if_neg this], show base + lwc (tz R * 8 + tz R) + ls (clr R (tz R)) = base + (lwc (tz R * 8 + tz R) + ls (clr R (tz R))) by omega] at H2
    refine Or.inr ⟨z, ?_⟩
    have key : ∀ (o : Nat) (x : Int), o < nf → (ch R, ls R) = ((o : Int), x) → UPD (base + x) (wco ch pt nf R o) l0 b0 l2 b2 → UPD (base + ls R) (pit ch R pt nf).2 l0 b0 l2 b2 := by
      intro o x ho he hu
      have e1 : ch R = (o : Int) := congrArg Prod.fst he
      have e2 : ls R = x := congrArg Prod.snd he
      have hg := pit_go (pt := pt) h1 hR e1 (show o < 8 by omega) (nf - (tz R + 1))
      rw [show tz R + 1 + (nf - (tz R + 1)) = nf by omega] at hg
      rw [e2, hg]
      exact hu
    unfold mfv at hv
    rw [pcn_cnb] at hv
    by_cases c1 : (mst lwc ls (clr R (tz R)) (tz R) v0 nf).1 = -1 ∨ lwc (tz R * 8 + tz R) + ls (clr R (tz R)) < (mst lwc ls (clr R (tz R)) (tz R) v0 nf).2
    · rw [if_pos ⟨hodd, c1⟩] at hv
      refine key (tz R) _ hpn hv ?_
      cases H0 with
      | inl y =>
        rw [y.2.1, y.2.2] at H2
        exact H2
      | inr y =>
        obtain ⟨o, y1, y2, y3⟩ := y
        cases c1 with
        | inl c2 => exact absurd c2 (by omega)
        | inr c2 => exact upd_lt y3 H2 (by omega)
    · rw [if_neg (fun y => c1 y.2)] at hv
      cases H0 with
      | inl y => exact absurd (Or.inl y.1) c1
      | inr y =>
        obtain ⟨o, y1, y2, y3⟩ := y
        refine key o _ y2 (hv.trans ?_) (upd_ge y3 H2 (fun y4 => c1 (Or.inr (by omega))))
        rw [← y1]
  · have hqc : q = c + 1 := by rw [← hq]; exact if_neg z
    have hbit : Nat.testBit R (c + 1) = true := by
      cases hc with
      | inr y => exact absurd y.1 (by omega)
      | inl y =>
        cases e : Nat.testBit R (c + 1) with
        | true => rfl
        | false =>
          have := (hF (c + 1) (by omega)).2 e
          omega
    have hrb : Nat.testBit (clr R (tz R)) (c + 1) = true := by
      rw [clr_bit hR hz.1, hbit, decide_eq_false (show ¬ c + 1 = tz R by omega)]
      rfl
    refine Or.inl ⟨by omega, ?_⟩
    rw [hqc, ← hlw (tz R) (c + 1) (by omega) (by omega), clr_comm hR (show c + 1 < 8 by omega) hz.1, show base + lwc (tz R * 8 + (c + 1)) + ls (clr (clr R (tz R)) (c + 1)) = base + (lwc (tz R * 8 + (c + 1)) + ls (clr (clr R (tz R)) (c + 1))) by omega] at H2
    rw [show mst lwc ls (clr R (tz R)) (tz R) v0 (c + 1 + 1) = if (mst lwc ls (clr R (tz R)) (tz R) v0 (c + 1)).1 = -1 ∨ lwc (tz R * 8 + (c + 1)) + ls (clr (clr R (tz R)) (c + 1)) < (mst lwc ls (clr R (tz R)) (tz R) v0 (c + 1)).2 then (((c + 1 : Nat) : Int), lwc (tz R * 8 + (c + 1)) + ls (clr (clr R (tz R)) (c + 1))) else mst lwc ls (clr R (tz R)) (tz R) v0 (c + 1) from by rw [mst, if_pos ⟨by omega, hrb⟩]]
    by_cases c1 : (mst lwc ls (clr R (tz R)) (tz R) v0 (c + 1)).1 = -1 ∨ lwc (tz R * 8 + (c + 1)) + ls (clr (clr R (tz R)) (c + 1)) < (mst lwc ls (clr R (tz R)) (tz R) v0 (c + 1)).2
    · rw [if_pos c1]
      refine Or.inr ⟨c + 1, rfl, by omega, ?_⟩
      cases H0 with
      | inl y =>
        rw [y.2.1, y.2.2] at H2
        exact H2
      | inr y =>
        obtain ⟨o, y1, y2, y3⟩ := y
        cases c1 with
        | inl c2 => exact absurd c2 (by omega)
        | inr c2 => exact upd_lt y3 H2 (by omega)
    · rw [if_neg c1]
      cases H0 with
      | inl y => exact absurd (Or.inl y.1) c1
      | inr y =>
        obtain ⟨o, y1, y2, y3⟩ := y
        exact Or.inr ⟨o, y1, y2, upd_ge y3 H2 (fun y4 => c1 (Or.inr (by omega)))⟩
theorem pg_no {lwc ls ch pt b0 b : Nat → Int} {nf R c : Nat} {v0 base l0 l : Int} (hn : nf ≤ 8) (h1 : 1 ≤ R) (hR : R < 256) (hRn : R < 2 ^ nf) (hpn : tz R < nf) (hpc : tz R ≤ c) (hcn : c < nf) (hv : (ch R, ls R) = mfv lwc ls v0 R nf) (hF : FR nf R pt) (hP : PAR nf R pt) (hc : ¬ cnm nf (tz R) (c + 1) pt) (H : PG lwc ls ch pt nf R v0 base l0 b0 c l b) : PG lwc ls ch pt nf R v0 base l0 b0 (c + 1) l b := by
  have hz := tz_at h1 hR
  have H0 : ((mst lwc ls (clr R (tz R)) (tz R) v0 (c + 1)).1 = -1 ∧ l = l0 ∧ b = b0) ∨ ∃ o : Nat, (mst lwc ls (clr R (tz R)) (tz R) v0 (c + 1)).1 = (o : Int) ∧ o < nf ∧ UPD (base + (mst lwc ls (clr R (tz R)) (tz R) v0 (c + 1)).2) (wco ch pt nf R o) l0 b0 l b := by
    cases H with
    | inl y => exact y.2
    | inr y => exact absurd y.1 (by omega)
  by_cases z : c + 1 = nf
  · rw [z] at H0
    have heven : ¬ cnb R 8 % 2 = 1 := fun y => hc (Or.inr ⟨by omega, hP.1 y⟩)
    refine Or.inr ⟨z, ?_⟩
    unfold mfv at hv
    rw [pcn_cnb, if_neg (fun y => heven y.1)] at hv
    cases H0 with
    | inl y =>
      exfalso
      have hnone := mst_none nf y.1
      have hr0 : clr R (tz R) = 0 := by
        apply Nat.eq_of_testBit_eq
        intro i
        rw [Nat.zero_testBit]
        by_cases i1 : tz R < i
        · by_cases i2 : i < nf
          · exact hnone i i1 i2
          · cases e : Nat.testBit (clr R (tz R)) i with
            | false => rfl
            | true =>
              rw [clr_bit hR hz.1, Bool.and_eq_true] at e
              exact absurd (bit_nf hRn e.1) i2
        · rw [clr_bit hR hz.1]
          by_cases i3 : i = tz R
          · rw [decide_eq_true i3, Bool.not_true, Bool.and_false]
          · rw [tz_lo h1 hR (show i < tz R by omega), Bool.false_and]
      have h9 := cnb_clr hR hz.1 hz.2 8
      rw [hr0, if_pos hz.1, show cnb 0 8 = 0 from by simp only [cnb, Nat.zero_testBit]; rfl] at h9
      omega
    | inr y =>
      obtain ⟨o, y1, y2, y3⟩ := y
      have e1 : ch R = (o : Int) := by rw [← y1]; exact congrArg Prod.fst hv
      have e2 : ls R = (mst lwc ls (clr R (tz R)) (tz R) v0 nf).2 := congrArg Prod.snd hv
      have hg := pit_go (pt := pt) h1 hR e1 (show o < 8 by omega) (nf - (tz R + 1))
      rw [show tz R + 1 + (nf - (tz R + 1)) = nf by omega] at hg
      rw [e2, hg]
      exact y3
  · have hrb : ¬ (tz R < c + 1 ∧ Nat.testBit (clr R (tz R)) (c + 1) = true) := by
      intro y
      have y2 := y.2
      rw [clr_bit hR hz.1, Bool.and_eq_true] at y2
      have := (hF (c + 1) (by omega)).1 y2.1
      exact hc (Or.inl ⟨by omega, by omega, by omega⟩)
    refine Or.inl ⟨by omega, ?_⟩
    rw [show mst lwc ls (clr R (tz R)) (tz R) v0 (c + 1 + 1) = mst lwc ls (clr R (tz R)) (tz R) v0 (c + 1) from by rw [mst, if_neg hrb]]
    exact H0
theorem hu_back {pt : Nat → Int} {p q : Nat} (hp : pt p = -1) (hq : pt q = -1) : hc_u (hc_u (hc_u (hc_u pt p (q : Int)) q (p : Int)) q (-1)) p (-1) = pt := by
  funext k
  by_cases c1 : k = p
  · rw [c1, hu_s, hp]
  · rw [hu_n c1]
    by_cases c2 : k = q
    · rw [c2, hu_s, hq]
    · rw [hu_n c2, hu_n c2, hu_n c1]
theorem hu_at {pt : Nat → Int} {p q : Nat} : hc_u (hc_u pt p (q : Int)) q (p : Int) p = (q : Int) := by
  by_cases c : p = q
  · rw [c, hu_s]
  · rw [hu_n c, hu_s]
abbrev mml : List Nat := [84, 85, 87, 88]
set_option maxHeartbeats 1000000 in
theorem lv_all {d : Nat} {h0 : hc_H} {Q : List hc_V → hc_H → Prop} {nf ev : Nat} {s A lwc lwr ls ch : Nat → Int} (hn : nf ≤ 8) (hA : A 0 = (nf : Int)) (hev : ev + 1 = 2 ^ nf) (hlw : ∀ a b, a ≤ b → b < nf → lwc (a * 8 + b) = lwr (8 * a + b)) (hlb : ∀ p q, p < nf → q < nf → 0 ≤ lwr (8 * p + q) ∧ lwr (8 * p + q) ≤ 720720) (HQ : MSQ lwc ls ch nf ev) : ∀ (g R : Nat), R < g → 1 ≤ R → R ≤ ev → ∀ (n : Nat) (pt0 bp0 T0 F0 : Nat → Int) (le0 : Int) (l3 l4 l5 l6 : hc_V) (h : hc_H), n + cnb R 8 ≤ 8 → FR nf R pt0 → PAR nf R pt0 → T0 n = ((tz R : Nat) : Int) → F0 n = ((tz R : Nat) : Int) → MM h s A pt0 bp0 lwr T0 F0 → Fr mml h0 h → (∀ h2 le2 bp2 T2 F2 l3 l4 l5 l6, UPD (sal lwr pt0 nf + ls R) (pit ch R pt0 nf).2 le0 bp0 le2 bp2 → (∀ j, j < n → T2 j = T0 j ∧ F2 j = F0 j) → MM h2 s A pt0 bp2 lwr T2 F2 → Fr mml h0 h2 → MH d le2 ((n : Int) + (-1)) l3 l4 l5 l6 h2 Q) → MH d le0 (n : Int) l3 l4 l5 l6 h Q
  | 0, R, hg, _, _ => absurd hg (by omega)
  | g + 1, R, hg, h1, hRe => by
    intro n pt0 bp0 T0 F0 le0 l3 l4 l5 l6 h hnc hF hP eT0 eF0 hM0 hFr0 k
    have h28 : 2 ^ nf ≤ 256 := Nat.pow_le_pow_right (n := 2) (by decide) hn
    have hR : R < 256 := by omega
    have hRn : R < 2 ^ nf := by omega
    have hz := tz_at h1 hR
    have hpn := bit_nf hRn hz.2
    have hcb := cnb_bit hz.1 hz.2
    have hpt0 := (hF _ hpn).1 hz.2
    obtain ⟨v0, hv⟩ := HQ.2 R h1 hRe
    have inner : ∀ (m c : Nat), c ≤ nf → nf < c + m → tz R ≤ c → ∀ (pt bp T F : Nat → Int) (le : Int) (l3 l4 l5 l6 : hc_V) (h : hc_H), T n = (c : Int) → F n = ((tz R : Nat) : Int) → ((pt = pt0) ∨ (0 ≤ pt (tz R) ∧ pt (tz R) < 8 ∧ hc_u (hc_u pt (Int.toNat (pt (tz R))) (-1)) (tz R) (-1) = pt0)) → PG lwc ls ch pt0 nf R v0 (sal lwr pt0 nf) le0 bp0 c le bp → (∀ j, j < n → T j = T0 j ∧ F j = F0 j) → MM h s A pt bp lwr T F → Fr mml h0 h → MH d le (n : Int) l3 l4 l5 l6 h Q := by
      intro m
      induction m with
      | zero =>
        intro c hc1 hc2
        exact absurd hc2 (by omega)
      | succ m ih =>
        intro c hc1 hc2 hpc pt bp T F le l3 l4 l5 l6 h eT eF hcur hPG hTF hM hFr
        have hpb : pt (tz R) < 8 := by
          cases hcur with
          | inl y => rw [y, hpt0]; omega
          | inr y => exact y.2.1
        refine l_mst0 hz.1 (by omega) eF hpb hM.1 hM.2.1 hM.2.2.1 hM.2.2.2.1 hM.2.2.2.2.1 hM.2.2.2.2.2.1 hM.2.2.2.2.2.2 (fun ptx hx h2 l4 l5 l6 B71 B72 B84 B85 B86 B87 B88 F2 => ?_)
        have hptx : ptx = pt0 := by
          cases hcur with
          | inl y =>
            cases hx with
            | inl x => rw [x.2, y]
            | inr x => rw [y, hpt0] at x; exact absurd x.1 (by omega)
          | inr y =>
            cases hx with
            | inl x => exact absurd x.1 (by omega)
            | inr x => rw [x.2, y.2.2]
        subst hptx
        have hFr2 : Fr mml h0 h2 := hFr.tr (Fr.mono F2 (nin_sub rfl)) (fun _ z => z)
        refine l_mst1 hn hA hpn (by omega) hc1 eT B71 B72 B84 B85 B86 B87 B88 (fun e1 h3 l3 l4 l5 l6 M3 F3 => ?_) (fun e1 e2 h3 l3 l4 l5 l6 M3 F3 => ?_) (fun e1 e2 q hq h3 l4 l5 l6 C71 C72 C84 C85 C86 C87 C88 F3 => ?_)
        · have hend : UPD (sal lwr ptx nf + ls R) (pit ch R ptx nf).2 le0 bp0 le bp := by
            cases hPG with
            | inl y => exact absurd y.1 (by omega)
            | inr y => exact y.2
          exact k h3 le bp _ F l3 l4 l5 l6 hend (fun j hj => ⟨by rw [hu_n (by omega)]; exact (hTF j hj).1, (hTF j hj).2⟩) M3 (hFr2.tr F3 (fun _ z => z))
        · exact ih (c + 1) (by omega) (by omega) (by omega) ptx bp _ F le l3 l4 l5 l6 h3 hu_s eF (Or.inl rfl) (pg_no hn h1 hR hRn hpn hpc e1 hv hF hP e2 hPG) (fun j hj => ⟨by rw [hu_n (by omega)]; exact (hTF j hj).1, (hTF j hj).2⟩) M3 (hFr2.tr F3 (fun _ z => z))
        · have hFr3 := hFr2.tr F3 (fun _ z => z)
          have hqn : q < nf := by
            rw [← hq]
            unfold mqq
            split <;> omega
          have hpq : tz R ≤ q := by
            rw [← hq]
            unfold mqq
            split <;> omega
          have hqR : Nat.testBit R q = true := by
            by_cases z : c + 1 = nf
            · rw [← hq, show mqq nf (tz R) (c + 1) = tz R from if_pos z]
              exact hz.2
            · rw [← hq, show mqq nf (tz R) (c + 1) = c + 1 from if_neg z]
              cases e2 with
              | inr y => exact absurd y.1 (by omega)
              | inl y =>
                cases e : Nat.testBit R (c + 1) with
                | true => rfl
                | false =>
                  have := (hF (c + 1) (by omega)).2 e
                  omega
          have hptq := (hF _ hqn).1 hqR
          have hodd : q = tz R → cnb R 8 % 2 = 1 := by
            intro y
            cases e2 with
            | inr y2 => exact hP.2 y2.2
            | inl y2 =>
              rw [← hq, show mqq nf (tz R) (c + 1) = c + 1 from if_neg (by omega)] at y
              omega
          have hF1 := hF.st hn hR hpn hqn
          have hP1 := hP.st hn hR hpn hqn hz.2 hqR hpt0 hptq hodd
          have hc2b := cnb_two hR hz.1 (show q < 8 by omega) hz.2 hqR
          have hc3 : cnb (clr (clr R q) (tz R)) 8 + 1 ≤ cnb R 8 := by
            by_cases y : q = tz R
            · have := hc2b.1 y
              omega
            · have := hc2b.2 y
              omega
          have hl1 := (clr_lt hR (show q < 8 by omega)).2.1 hqR
          have hl2 := (clr_lt (show clr R q < 256 by omega) hz.1).1
          have hsal : sal lwr (hc_u (hc_u ptx (tz R) (q : Int)) q ((tz R : Nat) : Int)) nf = sal lwr ptx nf + lwr (8 * tz R + q) := by
            rw [sal_u hpt0 hptq hpq, if_pos hpn]
          have hnx := hF1.nx hn (show clr (clr R q) (tz R) < 2 ^ nf by omega)
          have cont : ∀ (h4 : hc_H) (le2 : Int) (bp2 T2 F2 : Nat → Int) (l3 l4 l5 l6 : hc_V), UPD (sal lwr ptx nf + lwr (8 * tz R + q) + ls (clr (clr R q) (tz R))) (wco ch ptx nf R q) le bp le2 bp2 → T2 n = ((c + 1 : Nat) : Int) → F2 n = ((tz R : Nat) : Int) → (∀ j, j < n → T2 j = T0 j ∧ F2 j = F0 j) → MM h4 s A (hc_u (hc_u ptx (tz R) (q : Int)) q ((tz R : Nat) : Int)) bp2 lwr T2 F2 → Fr mml h0 h4 → MH d le2 (n : Int) l3 l4 l5 l6 h4 Q := by
            intro h4 le2 bp2 T2 F2 l3 l4 l5 l6 hu et ef htf hm hfr
            refine ih (c + 1) (by omega) (by omega) (by omega) _ bp2 T2 F2 le2 l3 l4 l5 l6 h4 et ef (Or.inr ?_) (pg_go hn h1 hR hpn hpc e1 hlw hv hF hP e2 hq hPG hu) htf hm hfr
            rw [hu_at, Int.toNat_natCast]
            exact ⟨by omega, by omega, hu_back hpt0 hptq⟩
          have hT3 : ∀ j, j < n → hc_u T n ((c + 1 : Nat) : Int) j = T0 j ∧ F j = F0 j := fun j hj => ⟨by rw [hu_n (by omega)]; exact (hTF j hj).1, (hTF j hj).2⟩
          refine l_mst2 hn hA hpn hqn (by omega) hlb (fun j hj => ?_) C71 C72 C84 C85 C86 C87 C88 (fun nx hx1 hx2 h4 l3 l4 l5 l6 M4 F4 => ?_) (fun hx1 hx2 h4 l3 l4 l5 l6 bp2 hb2 M4 F4 => ?_) (fun hx1 hx2 h4 l3 l4 l5 l6 M4 F4 => ?_)
          · have hj2 := hF1 j hj
            cases e : Nat.testBit (clr (clr R q) (tz R)) j with
            | true =>
              have := hj2.1 e
              omega
            | false =>
              have := hj2.2 e
              omega
          · have hne : 1 ≤ clr (clr R q) (tz R) := by
              by_cases y : clr (clr R q) (tz R) = 0
              · have := hnx.1 y
                omega
              · omega
            have hnxe := hnx.2 hne
            rw [← hx1] at hnxe
            rw [hnxe] at M4
            refine lv_all hn hA hev hlw hlb HQ g (clr (clr R q) (tz R)) (by omega) hne (by omega) (n + 1) _ bp _ _ le l3 l4 l5 l6 h4 (by omega) hF1 hP1 hu_s hu_s M4 (hFr3.tr F4 (fun _ z => z)) (fun h5 le2 bp2 T5 F5 l3 l4 l5 l6 u5 tf5 m5 f5 => ?_)
            rw [show ((n + 1 : Nat) : Int) + (-1) = (n : Int) by omega]
            rw [hsal] at u5
            refine cont h5 le2 bp2 T5 F5 l3 l4 l5 l6 u5 ?_ ?_ (fun j hj => ?_) m5 f5
            · rw [(tf5 n (by omega)).1, hu_n (by omega), hu_s]
            · rw [(tf5 n (by omega)).2, hu_n (by omega)]
              exact eF
            · refine ⟨?_, ?_⟩
              · rw [(tf5 j (by omega)).1, hu_n (by omega)]
                exact (hT3 j hj).1
              · rw [(tf5 j (by omega)).2, hu_n (by omega)]
                exact (hT3 j hj).2
          · have hne : clr (clr R q) (tz R) = 0 := by
              by_cases y : clr (clr R q) (tz R) = 0
              · exact y
              · have := hnx.2 (by omega)
                omega
            refine cont h4 _ bp2 _ F l3 l4 l5 l6 ?_ hu_s eF hT3 M4 (hFr3.tr F4 (fun _ z => z))
            rw [hne, HQ.1, Int.add_zero, ← hsal]
            refine ⟨fun _ => ⟨rfl, fun k hk => ?_⟩, fun y => absurd (by omega) y⟩
            rw [hb2 k hk, wco, hne, pit_0]
          · have hne : clr (clr R q) (tz R) = 0 := by
              by_cases y : clr (clr R q) (tz R) = 0
              · exact y
              · have := hnx.2 (by omega)
                omega
            refine cont h4 le bp _ F l3 l4 l5 l6 ?_ hu_s eF hT3 M4 (hFr3.tr F4 (fun _ z => z))
            rw [hne, HQ.1, Int.add_zero, ← hsal]
            exact ⟨fun y => absurd y (by omega), fun _ => ⟨rfl, rfl⟩⟩
    refine inner (nf + 1) (tz R) (by omega) (by omega) (Nat.le_refl _) pt0 bp0 T0 F0 le0 l3 l4 l5 l6 h eT0 eF0 (Or.inl rfl) (Or.inl ⟨hpn, Or.inl ⟨?_, rfl, rfl⟩⟩) (fun j _ => ⟨rfl, rfl⟩) hM0 hFr0
    rw [mst_0 _ (Nat.le_refl _)]
