/-! what holds between two calls stays -/
theorem PU.cl {ft fr : Option ef} {s s2 : cT} {e : dX} {kd a b c d : Int} (H : PU s e) (h : clS ft fr s kd a b c d = some s2) : PU s2 e ∧ s2.tc = s.tc ∧ s2.tx = s.tx := by
  obtain ⟨h1, h2, h3, h4, h5, h6, h7, h8, h9, h10⟩ := H
  obtain ⟨k1, ⟨k2, k3, k4, k5, k6, k7⟩, k8⟩ := cl_ok h1 h
  refine ⟨⟨k1, k8 h2, by rw [k3]; exact h3, by rw [k2, k3]; exact h4, by rw [k7]; exact h5, h6, h7, h8, ?_, h10⟩, k3, k4⟩
  rw [k5]
  exact h9
theorem PU.pl {ft fr : Option ef} {rw_ : Nat → Int} {e : dX} : ∀ (g k : Nat) (s : cT), PU s e → PU (plS ft fr rw_ g k s).2 e ∧ (plS ft fr rw_ g k s).2.tc = s.tc ∧ (plS ft fr rw_ g k s).2.tx = s.tx
  | 0, _, s, H => ⟨H, rfl, rfl⟩
  | g + 1, k, s, H => by
    rw [plS]
    cases h : clS ft fr s (rw_ (5 * k)) (rw_ (5 * k + 1)) (rw_ (5 * k + 2)) (rw_ (5 * k + 3)) (rw_ (5 * k + 4)) with
    | none => exact ⟨H, rfl, rfl⟩
    | some s2 =>
      obtain ⟨a, b, c⟩ := H.cl h
      obtain ⟨a2, b2, c2⟩ := PU.pl (ft := ft) (fr := fr) (rw_ := rw_) g (k + 1) s2 a
      exact ⟨a2, b2.trans b, c2.trans c⟩
theorem PU.kep {s : cT} {e : dX} {mk : Nat → Int} (H : PU s e) (hm : MK s.nf mk) : PU (kepS s mk) e := ⟨H.1.kep hm, H.2.1.kep H.1, H.2.2⟩
theorem PU.dys {fr : Option ef} {s : cT} {e : dX} {n : Int} (H : PU s e) (h1 : 1 ≤ n) (h2 : n ≤ 99) (h3 : s.dy + n ≤ 999) : PU (dysS fr s (Int.toNat n)) e ∧ (dysS fr s (Int.toNat n)).tc = s.tc ∧ (dysS fr s (Int.toNat n)).tx = s.tx :=
  H.cl (ft := none) (fr := fr) (kd := 14) (a := n) (b := 0) (c := 0) (d := 0) (cl_14.trans (if_pos ⟨h1, h2, h3⟩))
theorem PU.tb {s : cT} {e : dX} (H : PU s e) (hc : 0 < s.ct) : PU (tbS s) e := ⟨(H.1.tb H.2.1 hc).1, (H.1.tb H.2.1 hc).2, H.2.2⟩
theorem MK.su {nf : Nat} {mk : Nat → Int} (H : MK nf mk) : MK (nf + 1) mk := ⟨H.1, fun j h1 h2 => H.2.1 j (by omega) h2, H.2.2⟩
theorem PU.wl {s : cT} {e : dX} {v : Int} (H : PU s e) (hn : s.nf < 8) (h0 : 0 ≤ v) (h9 : v ≤ 9) : PU (wlS s v) e := by
  obtain ⟨⟨c1, c2, c3, c4⟩, h2, h3, h4, h5, h6, h7, h8, h9b, h10⟩ := H
  have hz := c2.2.1 s.nf (Nat.le_refl _) hn
  refine ⟨⟨show s.nf + 1 ≤ 8 by omega, ⟨fun j hj => ?_, fun j hj1 hj2 => ?_, ?_⟩, fun j hj => ?_, c4⟩, fun i hi => ?_, h3, h4, h5, h6, h7, h8, fun j hj => ?_, h10⟩
  · show 0 ≤ hc_u s.mk s.nf 0 j ∧ hc_u s.mk s.nf 0 j ≤ 720720
    by_cases z : j = s.nf
    · rw [z, hu_s]
      omega
    · rw [hu_n z]
      exact c2.1 j hj
  · have hj3 : s.nf + 1 ≤ j := hj1
    show hc_u s.mk s.nf 0 j = 0
    rw [hu_n (by omega)]
    exact c2.2.1 j (by omega) hj2
  · show smk (hc_u s.mk s.nf 0) 8 ≤ 720720
    rw [smk_u, if_pos hn, hz]
    have := c2.2.2
    omega
  · show 0 ≤ hc_u s.sl s.nf v j ∧ hc_u s.sl s.nf v j ≤ 9
    by_cases z : j = s.nf
    · rw [z, hu_s]
      exact ⟨h0, h9⟩
    · rw [hu_n z]
      exact c3 j hj
  · have := h2 i hi
    exact ⟨this.1.su, this.2⟩
  · have := h9b j hj
    show (0 ≤ e.2.1 j ∧ e.2.1 j < ((s.nf + 1 : Nat) : Int)) ∧ (0 ≤ e.2.2.1 j ∧ e.2.2.1 j < ((s.nf + 1 : Nat) : Int))
    omega
theorem PU.we {s : cT} {e : dX} {r v : Int} (H : PU s e) (hr : 0 ≤ r ∧ r ≤ 10) (hv : 0 ≤ v ∧ v ≤ 9999) : PU (weS s r (v * 9 + 23)) e := by
  obtain ⟨⟨c1, c2, c3, c4, c5, c6, c7⟩, h2⟩ := H
  exact ⟨⟨c1, c2, c3, c4, hr, (show 0 ≤ v * 9 + 23 ∧ v * 9 + 23 < 90015 by omega), c7⟩, h2⟩
theorem PU.ru {s : cT} {e : dX} {t : Int} (H : PU s e) (ht : -1 ≤ t ∧ t < s.tc) : PU (ruS s t) e := ⟨H.1, H.2.1, H.2.2.1, ht, H.2.2.2.2⟩
theorem PU.sc {s : cT} {e : dX} {c : Int} (H : PU s e) (hc : 0 ≤ c ∧ c ≤ 8) : PU (scS s c) e := ⟨H.1, H.2.1, H.2.2.1, H.2.2.2.1, hc, H.2.2.2.2.2⟩
theorem PU.se {s : cT} {e : dX} {c : Nat} {v : Int} (H : PU s e) (hv : 0 ≤ v ∧ v ≤ 720720) : PU s (e.1, e.2.1, e.2.2.1, e.2.2.2.1, hc_u e.2.2.2.2 c v) := by
  obtain ⟨h1, h2, h3, h4, h5, h6, h7, h8, h9, h10⟩ := H
  refine ⟨h1, h2, h3, h4, h5, h6, h7, h8, h9, fun j hj => ?_⟩
  show 0 ≤ hc_u e.2.2.2.2 c v j ∧ hc_u e.2.2.2.2 c v j ≤ 720720
  by_cases z : j = c
  · rw [z, hu_s]
    exact hv
  · rw [hu_n z]
    exact h10 j hj
theorem PU.oc {s : cT} {e : dX} (H : PU s e) : PU s (0, e.2) := by
  obtain ⟨h1, h2, h3, h4, h5, h6, h7, h8, h9, h10⟩ := H
  exact ⟨h1, h2, h3, h4, h5, Nat.zero_le _, fun j hj => absurd hj (Nat.not_lt_zero _), fun j hj => absurd hj (Nat.not_lt_zero _), fun j hj => absurd hj (Nat.not_lt_zero _), h10⟩
theorem PU.ot {s : cT} {e : dX} {u v x : Int} (H : PU s e) (he : e.1 < 20) (hu : 0 ≤ u ∧ u < (s.nf : Int)) (hv : 0 ≤ v ∧ v < (s.nf : Int)) (huv : u ≠ v) (hx : 0 < x ∧ x ≤ 720720) : PU s (e.1 + 1, hc_u e.2.1 e.1 u, hc_u e.2.2.1 e.1 v, hc_u e.2.2.2.1 e.1 x, e.2.2.2.2) := by
  obtain ⟨h1, h2, h3, h4, h5, h6, h7, h8, h9, h10⟩ := H
  refine ⟨h1, h2, h3, h4, h5, (show e.1 + 1 ≤ 20 by omega), fun j hj => ?_, fun j hj => ?_, fun j hj => ?_, h10⟩
  · have hj2 : j < e.1 + 1 := hj
    show 0 ≤ hc_u e.2.2.2.1 e.1 x j ∧ hc_u e.2.2.2.1 e.1 x j ≤ 720720
    by_cases z : j = e.1
    · rw [z, hu_s]
      omega
    · rw [hu_n z]
      exact h7 j (by omega)
  · have hj2 : j < e.1 + 1 := hj
    show hc_u e.2.1 e.1 u j ≠ hc_u e.2.2.1 e.1 v j
    by_cases z : j = e.1
    · rw [z, hu_s, hu_s]
      exact huv
    · rw [hu_n z, hu_n z]
      exact h8 j (by omega)
  · have hj2 : j < e.1 + 1 := hj
    show (0 ≤ hc_u e.2.1 e.1 u j ∧ hc_u e.2.1 e.1 u j < (s.nf : Int)) ∧ (0 ≤ hc_u e.2.2.1 e.1 v j ∧ hc_u e.2.2.1 e.1 v j < (s.nf : Int))
    by_cases z : j = e.1
    · rw [z, hu_s, hu_s]
      exact ⟨hu, hv⟩
    · rw [hu_n z, hu_n z]
      exact h9 j (by omega)
theorem PU.tx {s : cT} {e : dX} {t : Nat} (H : PU s e) (hc : s.tc < 4) : PU (txS s t) e := by
  obtain ⟨h1, h2, h3, h4, h5⟩ := H
  exact ⟨h1, h2, (show 0 ≤ s.tc + 1 ∧ s.tc + 1 ≤ 4 by omega), (show -1 ≤ s.ru ∧ s.ru < s.tc + 1 by omega), h5⟩
theorem cc_l {α : Type} {n : Nat} {f g : Nat → α} {j : Nat} (h : j < n) : cc n f g j = f j := if_pos h
theorem sgt_cc {fs : Int} {r t : Nat → Int} {i p : Nat} (hp : p < 11) : sgt fs (cc 330 r t) i p = sgt fs r i p := by
  unfold sgt
  exact cc_l (by omega)
theorem PU.lk {s t : cT} {e f : dX} (H : PU s e) : PU (lkS s t) (lkE e f) := by
  obtain ⟨⟨c1, c2, c3, c4⟩, h2, h3, h4, h5, h6, h7, h8, h9, h10⟩ := H
  refine ⟨⟨c1, c2.eq (fun j hj => cc_l hj), fun j hj => ?_, c4⟩, fun i hi => (h2 i hi).eq (fun p hp => sgt_cc hp), h3, h4, h5, h6, fun j hj => ?_, fun j hj => ?_, fun j hj => ?_, fun j hj => ?_⟩
  · show 0 ≤ cc 8 s.sl t.sl j ∧ cc 8 s.sl t.sl j ≤ 9
    rw [cc_l hj]
    exact c3 j hj
  · have hj2 : j < e.1 := hj
    show 0 ≤ cc 20 e.2.2.2.1 f.2.2.2.1 j ∧ cc 20 e.2.2.2.1 f.2.2.2.1 j ≤ 720720
    rw [cc_l (by omega)]
    exact h7 j hj2
  · have hj2 : j < e.1 := hj
    show cc 20 e.2.1 f.2.1 j ≠ cc 20 e.2.2.1 f.2.2.1 j
    rw [cc_l (by omega), cc_l (by omega)]
    exact h8 j hj2
  · have hj2 : j < e.1 := hj
    show (0 ≤ cc 20 e.2.1 f.2.1 j ∧ cc 20 e.2.1 f.2.1 j < (s.nf : Int)) ∧ (0 ≤ cc 20 e.2.2.1 f.2.2.1 j ∧ cc 20 e.2.2.1 f.2.2.1 j < (s.nf : Int))
    rw [cc_l (by omega), cc_l (by omega)]
    exact h9 j hj2
  · show 0 ≤ cc 8 e.2.2.2.2 f.2.2.2.2 j ∧ cc 8 e.2.2.2.2 f.2.2.2.2 j ≤ 720720
    rw [cc_l hj]
    exact h10 j hj
theorem RA.lk {A : Nat → Int} {s t : cT} {e f : dX} (H : RA A s e) : RA A (lkS s t) (lkE e f) := by
  obtain ⟨h1, h2, h3, h4, h5⟩ := H
  refine ⟨h1, fun p hp => ?_, fun k hk => ?_, fun k hk => ?_, fun i hi => ?_⟩
  · show A (12 + 2 * p) = cc 8 s.mk t.mk p ∧ A (12 + 2 * p + 1) = cc 8 s.sl t.sl p
    rw [cc_l hp, cc_l hp]
    exact h2 p hp
  · show A (28 + 3 * k) = cc 20 e.2.1 f.2.1 k ∧ A (28 + 3 * k + 1) = cc 20 e.2.2.1 f.2.2.1 k ∧ A (28 + 3 * k + 2) = cc 20 e.2.2.2.1 f.2.2.2.1 k
    rw [cc_l hk, cc_l hk, cc_l hk]
    exact h3 k hk
  · show A (88 + k) = cc 8 e.2.2.2.2 f.2.2.2.2 k
    rw [cc_l hk]
    exact h4 k hk
  · have h6 := h5 i hi
    show SGR (fun q => A (96 + 12 * i + q)) (sgt s.fs (cc 330 s.rs t.rs) i)
    unfold SGR at h6 ⊢
    rw [sgt_cc (p := 8) (by omega), sgt_cc (p := 9) (by omega), sgt_cc (p := 10) (by omega)]
    refine ⟨h6.1, h6.2.1, h6.2.2.1, h6.2.2.2.1, fun p hp => ?_⟩
    rw [sgt_cc (by omega)]
    exact h6.2.2.2.2 p hp
theorem ab_eq {A : Nat → Int} {s : cT} {e : dX} (H : RA A s e) : ∀ i, i < 10 → A i = abv s e i := by
  obtain ⟨⟨a0, a1, a2, a3, a4, a5, a6, a7, a8, a9⟩, _⟩ := H
  intro i hi
  match i, hi with
  | 0, _ => exact a0
  | 1, _ => exact a1
  | 2, _ => exact a2
  | 3, _ => exact a3
  | 4, _ => exact a4
  | 5, _ => exact a5
  | 6, _ => exact a6
  | 7, _ => exact a7
  | 8, _ => exact a8
  | 9, _ => exact a9
  | i + 10, h => exact absurd h (by omega)
