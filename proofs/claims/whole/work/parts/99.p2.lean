/-! marrying, pure -/
def mfv (lw ls : Nat → Int) (v0 : Int) (s al : Nat) : Int × Int := if pcn s % 2 = 1 ∧ ((mst lw ls (clr s (tz s)) (tz s) v0 al).1 = -1 ∨ lw (tz s * 8 + tz s) + ls (clr s (tz s)) < (mst lw ls (clr s (tz s)) (tz s) v0 al).2) then (((tz s : Nat) : Int), lw (tz s * 8 + tz s) + ls (clr s (tz s))) else mst lw ls (clr s (tz s)) (tz s) v0 al
theorem mst_cg {lw ls l2 : Nat → Int} {rest one : Nat} {v0 : Int} (hr : rest < 256) (h : ∀ t, t ≤ rest → l2 t = ls t) : ∀ n : Nat, n ≤ 8 → mst lw l2 rest one v0 n = mst lw ls rest one v0 n
  | 0, _ => rfl
  | n + 1, hn => by rw [mst, mst, mst_cg hr h n (by omega), h (clr rest n) (clr_lt hr (by omega)).1]
theorem mfv_cg {lw ls l2 : Nat → Int} {s al : Nat} {v0 : Int} (h1 : 1 ≤ s) (hs : s < 256) (hal : al ≤ 8) (h : ∀ t, t < s → l2 t = ls t) : mfv lw l2 v0 s al = mfv lw ls v0 s al := by
  have hz := tz_at h1 hs
  have hl := (clr_lt hs hz.1).2.1 hz.2
  unfold mfv
  rw [mst_cg (by omega) (fun t ht => h t (by omega)) al hal, h (clr s (tz s)) hl]
def MSQ (lw ls ch : Nat → Int) (nf ev : Nat) : Prop := ls 0 = 0 ∧ ∀ t, 1 ≤ t → t ≤ ev → ∃ v0 : Int, (ch t, ls t) = mfv lw ls v0 t nf
theorem mit_ok {lw ls ch : Nat → Int} {nf : Nat} (hnf : nf ≤ 8) : ∀ n : Nat, n < 256 → MSQ lw (mit lw ls ch nf n).1 (mit lw ls ch nf n).2 nf n
  | 0, _ => ⟨show hc_u ls 0 0 0 = 0 from hu_s, fun t h1 h2 => absurd h1 (by omega)⟩
  | n + 1, hn => by
    obtain ⟨i1, i2⟩ := mit_ok (lw := lw) (ls := ls) (ch := ch) hnf n (by omega)
    have h1 : ∀ q, q ≤ n → (mit lw ls ch nf (n + 1)).1 q = (mit lw ls ch nf n).1 q := fun q hq => by
      rw [mit]
      exact hu_n (by omega)
    have h2 : ∀ q, q ≤ n → (mit lw ls ch nf (n + 1)).2 q = (mit lw ls ch nf n).2 q := fun q hq => by
      rw [mit]
      exact hu_n (by omega)
    refine ⟨by rw [h1 0 (by omega)]; exact i1, fun t ht1 ht2 => ?_⟩
    by_cases z : t = n + 1
    · refine ⟨(mit lw ls ch nf n).1 (n + 1), ?_⟩
      rw [z, mfv_cg (by omega) hn hnf (fun q hq => h1 q (by omega))]
      show (hc_u (mit lw ls ch nf n).2 (n + 1) (mfn lw (mit lw ls ch nf n).1 (n + 1) nf).1 (n + 1), hc_u (mit lw ls ch nf n).1 (n + 1) (mfn lw (mit lw ls ch nf n).1 (n + 1) nf).2 (n + 1)) = _
      rw [hu_s, hu_s]
      rfl
    · obtain ⟨v0, hv⟩ := i2 t ht1 (by omega)
      refine ⟨v0, ?_⟩
      rw [mfv_cg ht1 (by omega) hnf (fun q hq => h1 q (by omega)), h1 t (by omega), h2 t (by omega)]
      exact hv
theorem pit_st {ch pt : Nat → Int} {R p : Nat} (hb : ∀ i, i < p → Nat.testBit R i = false) : ∀ n : Nat, n ≤ p → pit ch R pt n = (R, pt)
  | 0, _ => rfl
  | n + 1, h => by
    rw [pit, pit_st hb n (by omega), pst, if_neg (by dsimp only; rw [hb n (by omega)]; decide)]
theorem pit_0 {ch pt : Nat → Int} {n : Nat} : pit ch 0 pt n = (0, pt) := pit_st (p := n) (fun i _ => Nat.zero_testBit i) n (Nat.le_refl _)
theorem pit_go {ch pt : Nat → Int} {R o : Nat} (h1 : 1 ≤ R) (hR : R < 256) (ho : ch R = (o : Int)) (ho8 : o < 8) : ∀ n : Nat, pit ch R pt (tz R + 1 + n) = pit ch (clr (clr R o) (tz R)) (hc_u (hc_u pt (tz R) (o : Int)) o ((tz R : Nat) : Int)) (tz R + 1 + n)
  | 0 => by
    have hz := tz_at h1 hR
    have hc := (clr_lt hR ho8).1
    rw [pit_st (R := clr (clr R o) (tz R)) (p := tz R + 1) (fun i hi => ?_) (tz R + 1 + 0) (Nat.le_refl _)]
    · show pst ch (tz R) (pit ch R pt (tz R)) = _
      rw [pit_st (p := tz R) (fun i hi => tz_lo h1 hR hi) _ (Nat.le_refl _), pst, if_pos hz.2]
      dsimp only
      rw [ho, Int.toNat_natCast]
    · rw [clr_bit (by omega) hz.1, clr_bit hR ho8]
      by_cases z : i = tz R
      · rw [decide_eq_true z, Bool.not_true, Bool.and_false]
      · rw [tz_lo h1 hR (show i < tz R by omega), Bool.false_and, Bool.false_and]
  | n + 1 => by
    show pst ch (tz R + 1 + n) (pit ch R pt (tz R + 1 + n)) = pst ch (tz R + 1 + n) _
    rw [pit_go h1 hR ho ho8 n]
    rfl
theorem sal_u {lw pt : Nat → Int} {p q : Nat} (hp : pt p = -1) (hq : pt q = -1) (hpq : p ≤ q) : ∀ n : Nat, sal lw (hc_u (hc_u pt p (q : Int)) q (p : Int)) n = sal lw pt n + (if p < n then lw (8 * p + q) else 0)
  | 0 => by
    rw [if_neg (by omega)]
    rfl
  | n + 1 => by
    rw [sal, sal, sal_u hp hq hpq n]
    by_cases c1 : n = q
    · rw [c1, hu_s, hq, if_pos (show (-1 : Int) < (q : Int) by omega)]
      by_cases c2 : p = q
      · rw [if_neg (show ¬ (p : Int) < (q : Int) by omega), if_neg (by omega), if_pos (by omega), Int.toNat_natCast, c2]
      · rw [if_pos (show (p : Int) < (q : Int) by omega), if_pos (by omega), if_pos (by omega)]
        omega
    · rw [hu_n c1]
      by_cases c2 : n = p
      · rw [c2, hu_s, hp, if_pos (show (-1 : Int) < (p : Int) by omega), if_neg (show ¬ (q : Int) < (p : Int) by omega), if_neg (by omega), if_pos (by omega), Int.toNat_natCast]
      · rw [hu_n c2]
        by_cases c3 : p < n
        · rw [if_pos c3, if_pos (show p < n + 1 by omega)]
          omega
        · rw [if_neg c3, if_neg (show ¬ p < n + 1 by omega)]
          omega
theorem clr_comm {R a b : Nat} (hR : R < 256) (ha : a < 8) (hb : b < 8) : clr (clr R a) b = clr (clr R b) a := by
  have h1 := (clr_lt hR ha).1
  have h2 := (clr_lt hR hb).1
  apply Nat.eq_of_testBit_eq
  intro i
  rw [clr_bit (by omega) hb, clr_bit hR ha, clr_bit (by omega) ha, clr_bit hR hb, Bool.and_assoc, Bool.and_assoc, Bool.and_comm (!decide (i = a))]
theorem cnb_clr {S p : Nat} (hS : S < 256) (hp : p < 8) (hb : Nat.testBit S p = true) : ∀ n : Nat, cnb (clr S p) n + (if p < n then 1 else 0) = cnb S n
  | 0 => by
    rw [if_neg (by omega)]
    rfl
  | n + 1 => by
    have ih := cnb_clr hS hp hb n
    rw [cnb, cnb, ← ih, clr_bit hS hp]
    by_cases c : n = p
    · rw [if_neg (show ¬ p < n by omega), if_pos (show p < n + 1 by omega), c, hb]
      simp
    · rw [show decide (n = p) = false from decide_eq_false c]
      by_cases q : p < n
      · rw [if_pos q, if_pos (show p < n + 1 by omega)]
        cases Nat.testBit S n <;> simp
      · rw [if_neg q, if_neg (show ¬ p < n + 1 by omega)]
        cases Nat.testBit S n <;> simp
theorem tb_nat : ∀ b : Bool, b.toNat = if b = true then 1 else 0
  | true => rfl
  | false => rfl
theorem pcn_cnb (s : Nat) : pcn s = cnb s 8 := by simp only [pcn, cnb, tb_nat, Nat.zero_add]
def FR (nf R : Nat) (pt : Nat → Int) : Prop := ∀ k, k < nf → (Nat.testBit R k = true → pt k = -1) ∧ (Nat.testBit R k = false → 0 ≤ pt k ∧ pt k < (nf : Int))
def PAR (nf R : Nat) (pt : Nat → Int) : Prop := cnb R 8 % 2 = 1 ↔ (nf % 2 = 1 ∧ ∀ q : Nat, q < nf → pt q ≠ (q : Int))
theorem nxf_none {pt : Nat → Int} : ∀ g j : Nat, (∀ k, j ≤ k → k < j + g → ¬ pt k < 0) → nxf pt g j = -1
  | 0, _, _ => rfl
  | g + 1, j, h => by
    rw [nxf, if_neg (h j (Nat.le_refl _) (by omega))]
    exact nxf_none g (j + 1) (fun k h1 h2 => h k (by omega) (by omega))
theorem nxf_some {pt : Nat → Int} {p : Nat} (hp : pt p < 0) : ∀ g j : Nat, j ≤ p → p < j + g → (∀ k, j ≤ k → k < p → ¬ pt k < 0) → nxf pt g j = (p : Int)
  | 0, _, _, h, _ => absurd h (by omega)
  | g + 1, j, h1, h2, h => by
    rw [nxf]
    by_cases c : j = p
    · rw [c, if_pos hp]
    · rw [if_neg (h j (Nat.le_refl _) (by omega))]
      exact nxf_some hp g (j + 1) (by omega) (by omega) (fun k h3 h4 => h k (by omega) h4)
theorem bit_nf {R nf i : Nat} (h : R < 2 ^ nf) (hb : Nat.testBit R i = true) : i < nf := by
  by_cases c : i < nf
  · exact c
  · rw [Nat.testBit_lt_two_pow (Nat.lt_of_lt_of_le h (Nat.pow_le_pow_right (by decide) (show nf ≤ i by omega)))] at hb
    exact nomatch hb
theorem FR.nx {nf R : Nat} {pt : Nat → Int} (H : FR nf R pt) (hn : nf ≤ 8) (hR : R < 2 ^ nf) : (R = 0 → nxf pt nf 0 = -1) ∧ (1 ≤ R → nxf pt nf 0 = ((tz R : Nat) : Int)) := by
  have h256 : R < 256 := Nat.lt_of_lt_of_le hR (Nat.pow_le_pow_right (n := 2) (by decide) hn)
  constructor
  · intro z
    refine nxf_none nf 0 (fun k _ hk => ?_)
    have := (H k (by omega)).2 (by rw [z]; exact Nat.zero_testBit k)
    omega
  · intro h1
    have hz := tz_at h1 h256
    have hzn := bit_nf hR hz.2
    have h3 := (H _ hzn).1 hz.2
    refine nxf_some (by omega) nf 0 (by omega) (by omega) (fun k _ hk => ?_)
    have := (H k (by omega)).2 (tz_lo h1 h256 hk)
    omega
theorem FR.st {nf R p o : Nat} {pt : Nat → Int} (H : FR nf R pt) (hn : nf ≤ 8) (hR : R < 256) (hp : p < nf) (ho : o < nf) : FR nf (clr (clr R o) p) (hc_u (hc_u pt p (o : Int)) o (p : Int)) := by
  have hc := (clr_lt hR (show o < 8 by omega)).1
  intro k hk
  rw [clr_bit (by omega) (show p < 8 by omega), clr_bit hR (show o < 8 by omega)]
  by_cases c1 : k = o
  · rw [decide_eq_true c1, Bool.not_true, Bool.and_false, Bool.false_and, c1, hu_s]
    exact ⟨fun z => (nomatch z), fun _ => by omega⟩
  · rw [hu_n c1]
    by_cases c2 : k = p
    · rw [decide_eq_true c2, Bool.not_true, Bool.and_false, c2, hu_s]
      exact ⟨fun z => (nomatch z), fun _ => by omega⟩
    · rw [hu_n c2, decide_eq_false c1, decide_eq_false c2, Bool.not_false, Bool.and_true, Bool.and_true]
      exact H k hk
theorem cnb_two {R p o : Nat} (hR : R < 256) (hp : p < 8) (ho : o < 8) (hbp : Nat.testBit R p = true) (hbo : Nat.testBit R o = true) : (o = p → cnb (clr (clr R o) p) 8 + 1 = cnb R 8) ∧ (o ≠ p → cnb (clr (clr R o) p) 8 + 2 = cnb R 8) := by
  have h1 := cnb_clr hR ho hbo 8
  rw [if_pos ho] at h1
  have hl := (clr_lt hR ho).1
  constructor
  · intro z
    subst z
    have e : clr (clr R o) o = clr R o := by
      have : ¬ Nat.testBit (clr R o) o = true := by
        rw [clr_bit hR ho, decide_eq_true rfl, Bool.not_true, Bool.and_false]
        decide
      rw [clr, if_neg this]
    rw [e]
    exact h1
  · intro z
    have hb2 : Nat.testBit (clr R o) p = true := by
      rw [clr_bit hR ho, hbp, decide_eq_false (fun y => z y.symm)]
      rfl
    have h2 := cnb_clr (show clr R o < 256 by omega) hp hb2 8
    rw [if_pos hp] at h2
    omega
theorem PAR.st {nf R p o : Nat} {pt : Nat → Int} (H : PAR nf R pt) (hn : nf ≤ 8) (hR : R < 256) (hp : p < nf) (ho : o < nf) (hbp : Nat.testBit R p = true) (hbo : Nat.testBit R o = true) (e1 : pt p = -1) (e2 : pt o = -1) (hodd : o = p → cnb R 8 % 2 = 1) : PAR nf (clr (clr R o) p) (hc_u (hc_u pt p (o : Int)) o (p : Int)) := by
  have h3 := cnb_two hR (show p < 8 by omega) (show o < 8 by omega) hbp hbo
  unfold PAR at H ⊢
  by_cases z : o = p
  · have := h3.1 z
    have := hodd z
    constructor
    · intro y
      omega
    · intro y
      have := y.2 o ho
      rw [hu_s] at this
      exact absurd (by omega) this
  · have := h3.2 z
    rw [show cnb (clr (clr R o) p) 8 % 2 = cnb R 8 % 2 by omega, H]
    have hq : (∀ q : Nat, q < nf → pt q ≠ (q : Int)) ↔ (∀ q : Nat, q < nf → hc_u (hc_u pt p (o : Int)) o (p : Int) q ≠ (q : Int)) := by
      constructor
      · intro y q hq
        by_cases c1 : q = o
        · rw [c1, hu_s]
          omega
        · rw [hu_n c1]
          by_cases c2 : q = p
          · rw [c2, hu_s]
            omega
          · rw [hu_n c2]
            exact y q hq
      · intro y q hq
        by_cases c1 : q = o
        · rw [c1, e2]
          omega
        · by_cases c2 : q = p
          · rw [c2, e1]
            omega
          · have := y q hq
            rw [hu_n c1, hu_n c2] at this
            exact this
    rw [hq]
