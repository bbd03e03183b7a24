/-! one clause carried out, as both sides do it -/
def pdS (s : cT) (a b c : Int) : Int := s.mk (Int.toNat c) * a / b
def tlS (ft : Option ef) (s : cT) (a b c : Int) : Int := if s.mk (Int.toNat c) * a % b = 0 then 0 else tlv ft c (s.mk (Int.toNat c)) s.dy (pdS s a b c) (s.mk (Int.toNat c) * a % b)
def pyM (ft : Option ef) (s : cT) (a b c d : Int) : Nat → Int := hc_u (hc_u s.mk (Int.toNat c) (s.mk (Int.toNat c) - (pdS s a b c + tlS ft s a b c))) (Int.toNat d) (hc_u s.mk (Int.toNat c) (s.mk (Int.toNat c) - (pdS s a b c + tlS ft s a b c)) (Int.toNat d) + pdS s a b c)
abbrev cl12 (s : cT) (a b c d : Int) : Prop := (0 ≤ c ∧ c < (s.nf : Int)) ∧ (0 ≤ d ∧ d < (s.nf : Int)) ∧ c ≠ d ∧ 1 ≤ a ∧ a ≤ b ∧ b ≤ 99
abbrev cl13 (s : cT) (a b : Int) : Prop := (0 ≤ b ∧ b < (s.nf : Int)) ∧ 1 ≤ a ∧ a ≤ 720720 - smk s.mk s.nf
abbrev cl14 (s : cT) (a : Int) : Prop := 1 ≤ a ∧ a ≤ 99 ∧ s.dy + a ≤ 999
def clS (ft fr : Option ef) (s : cT) (kd a b c d : Int) : Option cT :=
  if kd = 12 then (if (0 ≤ c ∧ c < (s.nf : Int)) ∧ (0 ≤ d ∧ d < (s.nf : Int)) ∧ c ≠ d ∧ 1 ≤ a ∧ a ≤ b ∧ b ≤ 99 then some (kepS s (pyM ft s a b c d)) else none)
  else if kd = 13 then (if (0 ≤ b ∧ b < (s.nf : Int)) ∧ 1 ≤ a ∧ a ≤ 720720 - smk s.mk s.nf then some (kepS s (hc_u s.mk (Int.toNat b) (s.mk (Int.toNat b) + a))) else none)
  else if kd = 14 then (if 1 ≤ a ∧ a ≤ 99 ∧ s.dy + a ≤ 999 then some (dysS fr s (Int.toNat a)) else none)
  else some s
theorem cl_12 {ft fr : Option ef} {s : cT} {a b c d : Int} : clS ft fr s 12 a b c d = if cl12 s a b c d then some (kepS s (pyM ft s a b c d)) else none := if_pos rfl
theorem cl_13 {ft fr : Option ef} {s : cT} {a b c d : Int} : clS ft fr s 13 a b c d = if cl13 s a b then some (kepS s (hc_u s.mk (Int.toNat b) (s.mk (Int.toNat b) + a))) else none := (if_neg (by decide)).trans (if_pos rfl)
theorem cl_14 {ft fr : Option ef} {s : cT} {a b c d : Int} : clS ft fr s 14 a b c d = if cl14 s a then some (dysS fr s (Int.toNat a)) else none := (if_neg (by decide)).trans ((if_neg (by decide)).trans (if_pos rfl))
theorem cl_lo {ft fr : Option ef} {s : cT} {kd a b c d : Int} (h : kd < 12) : clS ft fr s kd a b c d = some s := (if_neg (by omega)).trans ((if_neg (by omega)).trans (if_neg (by omega)))
theorem pd_bd {s : cT} {a b c : Int} (hs : cOK s) (hc : 0 ≤ c ∧ c < (s.nf : Int)) (hab : 1 ≤ a ∧ a ≤ b) : 0 ≤ pdS s a b c ∧ pdS s a b c ≤ s.mk (Int.toNat c) := by
  have h0 := hs.2.1.1 (Int.toNat c) (by have := hs.1; omega)
  unfold pdS
  have h1 : s.mk (Int.toNat c) * a ≤ s.mk (Int.toNat c) * b := Int.mul_le_mul_of_nonneg_left hab.2 h0.1
  exact ⟨Int.ediv_nonneg (Int.mul_nonneg h0.1 (by omega)) (by omega), Int.ediv_le_of_le_mul (by omega) h1⟩
theorem tl_bd {ft : Option ef} {s : cT} {a b c : Int} (hs : cOK s) (hc : 0 ≤ c ∧ c < (s.nf : Int)) (hab : 1 ≤ a ∧ a ≤ b) : 0 ≤ tlS ft s a b c ∧ pdS s a b c + tlS ft s a b c ≤ s.mk (Int.toNat c) := by
  have h1 := pd_bd hs hc hab
  unfold tlS
  split
  · omega
  · have := tlv_bd (ft := ft) (who := c) (day := s.dy) (rest := s.mk (Int.toNat c) * a % b) h1.2
    omega
theorem dys_same {fr : Option ef} {s : cT} : ∀ n : Nat, (dysS fr s n).ru = s.ru ∧ (dysS fr s n).tc = s.tc ∧ (dysS fr s n).tx = s.tx ∧ (dysS fr s n).nf = s.nf ∧ (dysS fr s n).sl = s.sl ∧ (dysS fr s n).sc = s.sc := by
  intro n
  induction n with
  | zero => exact ⟨rfl, rfl, rfl, rfl, rfl, rfl⟩
  | succ n ih => exact ⟨ih.1, ih.2.1, ih.2.2.1, ih.2.2.2.1, ih.2.2.2.2.1, ih.2.2.2.2.2⟩
theorem cl_ok {ft fr : Option ef} {s s2 : cT} {kd a b c d : Int} (hs : cOK s) (H : clS ft fr s kd a b c d = some s2) : cOK s2 ∧ (s2.ru = s.ru ∧ s2.tc = s.tc ∧ s2.tx = s.tx ∧ s2.nf = s.nf ∧ s2.sl = s.sl ∧ s2.sc = s.sc) ∧ (RK s → RK s2) := by
  unfold clS at H
  have hn := hs.1
  by_cases c1 : kd = 12
  · rw [if_pos c1] at H
    by_cases c2 : cl12 s a b c d
    · rw [if_pos c2] at H
      obtain ⟨h1, h2, h3, h4, h5, h6⟩ := c2
      have hp := pd_bd hs h1 ⟨h4, h5⟩
      have ht := tl_bd (ft := ft) hs h1 ⟨h4, h5⟩
      have e : kepS s (pyM ft s a b c d) = s2 := Option.some.inj H
      rw [← e]
      exact ⟨hs.kep (hs.2.1.move hn (by omega) (by omega) (by omega) hp.1 ht.1 ht.2), ⟨rfl, rfl, rfl, rfl, rfl, rfl⟩, fun R => RK.kep hs R⟩
    · rw [if_neg c2] at H
      exact nomatch H
  · rw [if_neg c1] at H
    by_cases c3 : kd = 13
    · rw [if_pos c3] at H
      by_cases c2 : cl13 s a b
      · rw [if_pos c2] at H
        obtain ⟨h1, h2, h3⟩ := c2
        have e := Option.some.inj H
        rw [← e]
        exact ⟨hs.kep (hs.2.1.add hn (by omega) (by omega) h3), ⟨rfl, rfl, rfl, rfl, rfl, rfl⟩, fun R => RK.kep hs R⟩
      · rw [if_neg c2] at H
        exact nomatch H
    · rw [if_neg c3] at H
      by_cases c4 : kd = 14
      · rw [if_pos c4] at H
        by_cases c2 : cl14 s a
        · rw [if_pos c2] at H
          obtain ⟨h1, h2, h3⟩ := c2
          have e := Option.some.inj H
          rw [← e]
          exact ⟨dys_ok hs _ (by omega), dys_same _, fun R => RK.dys hs R _ (by omega)⟩
        · rw [if_neg c2] at H
          exact nomatch H
      · rw [if_neg c4] at H
        have e : s = s2 := Option.some.inj H
        rw [← e]
        exact ⟨hs, ⟨rfl, rfl, rfl, rfl, rfl, rfl⟩, fun R => R⟩
