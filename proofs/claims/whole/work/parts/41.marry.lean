/-! the class: Marrying, fourth part: all sets -/
theorem mst_none {lw ls : Nat → Int} {rest one : Nat} {v0 : Int} : ∀ n : Nat, (mst lw ls rest one v0 n).1 = -1 → ∀ m, one < m → m < n → Nat.testBit rest m = false := by
  intro n
  induction n with
  | zero => intro _ m _ h; exact absurd h (by omega)
  | succ n ih =>
    intro h m h1 h2
    simp only [mst] at h
    by_cases c : one < n ∧ Nat.testBit rest n = true
    · rw [if_pos c] at h
      by_cases c2 : (mst lw ls rest one v0 n).1 = -1 ∨ lw (one * 8 + n) + ls (clr rest n) < (mst lw ls rest one v0 n).2
      · rw [if_pos c2] at h
        dsimp only at h
        omega
      · rw [if_neg c2] at h
        exact absurd (Or.inl h) c2
    · rw [if_neg c] at h
      by_cases e : m = n
      · subst e
        cases z : Nat.testBit rest m
        · rfl
        · exact absurd ⟨h1, z⟩ c
      · exact ih h m h1 (by omega)
theorem one_bit' : ∀ s : Fin 256, 1 ≤ s.1 → (∀ m : Fin 8, tz s.1 < m.1 → Nat.testBit (clr s.1 (tz s.1)) m.1 = false) → pcn s.1 = 1 := by decide +kernel
theorem tz_pow' : ∀ s : Fin 256, 1 ≤ s.1 → 2 ^ tz s.1 ≤ s.1 := by decide +kernel
theorem tz_al {s al : Nat} (hs : 1 ≤ s ∧ s < 256) (h : s < 2 ^ al) : tz s < al := by
  have a := tz_pow' ⟨s, hs.2⟩ hs.1
  dsimp only at a
  rcases Nat.lt_or_ge (tz s) al with c | c
  · exact c
  · have := Nat.pow_le_pow_right (n := 2) (by omega) c
    omega
theorem mfn_found {lw ls : Nat → Int} {s al : Nat} (hs : 1 ≤ s ∧ s < 256) (h : s < 2 ^ al) : (mfn lw ls s al).1 ≠ -1 := by
  intro z
  unfold mfn at z
  by_cases c : (mst lw ls (clr s (tz s)) (tz s) (ls s) al).1 = -1
  · have hp : pcn s = 1 := by
      refine one_bit' ⟨s, hs.2⟩ hs.1 (fun m hm => ?_)
      dsimp only at hm ⊢
      rcases Nat.lt_or_ge m.1 al with d | d
      · exact mst_none al c m.1 hm d
      · have b7 := tz_bd s
        have e := (clr_lt (s := s) (p := tz s) hs.2 (by omega)).1
        refine Nat.testBit_lt_two_pow (Nat.lt_of_le_of_lt e (Nat.lt_of_lt_of_le h (Nat.pow_le_pow_right (by omega) d)))
    rw [if_pos ⟨by rw [hp], Or.inl c⟩] at z
    dsimp only at z
    omega
  · split at z
    · dsimp only at z
      omega
    · exact c z
def mit (lw ls ch : Nat → Int) (al : Nat) : Nat → (Nat → Int) × (Nat → Int)
  | 0 => (hc_u ls 0 0, ch)
  | n + 1 => (hc_u (mit lw ls ch al n).1 (n + 1) (mfn lw (mit lw ls ch al n).1 (n + 1) al).2, hc_u (mit lw ls ch al n).2 (n + 1) (mfn lw (mit lw ls ch al n).1 (n + 1) al).1)
set_option maxRecDepth 100000 in
theorem l_sets {d : Nat} {h0 : hc_H} {Q : List hc_V → hc_H → Prop} {al ev : Nat} {tg fk : Int} {lw ls ch : Nat → Int} {l6 l7 : hc_V} (hal : al ≤ 8) (hev : ev + 1 = 2 ^ al ∧ ev < 256) (HL : LB lw) (k : ∀ h2 q2, h2.2.2 65 = mar tg → h2.2.2 66 = ar 64 lw → h2.2.2 67 = ar 256 (mit lw ls ch al ev).1 → h2.2.2 68 = ar 256 (mit lw ls ch al ev).2 → LSB (mit lw ls ch al ev).1 (ev + 1) → (∀ t, 1 ≤ t → t < ev + 1 → 0 ≤ (mit lw ls ch al ev).2 t ∧ (mit lw ls ch al ev).2 t < 8) → Fr [67, 68] h0 h2 → hc_wp (d + 2) mX1_work 62 [xR 65, xR 27, xI fk, xI (al : Int), xI (ev : Int), xI q2, l6, l7] [] h2 Q) : ∀ (n p : Nat) (q : Int) (h : hc_H), q = (p : Int) + 1 → (p ≤ ev ∧ ev < p + n) → h.2.2 65 = mar tg → h.2.2 66 = ar 64 lw → h.2.2 67 = ar 256 (mit lw ls ch al p).1 → h.2.2 68 = ar 256 (mit lw ls ch al p).2 → LSB (mit lw ls ch al p).1 (p + 1) → (∀ t, 1 ≤ t → t < p + 1 → 0 ≤ (mit lw ls ch al p).2 t ∧ (mit lw ls ch al p).2 t < 8) → Fr [67, 68] h0 h → True → hc_wp (d + 2) mX1_work 34 [xR 65, xR 27, xI fk, xI (al : Int), xI (ev : Int), xI q, l6, l7] [] h Q := by
  intro n
  induction n with
  | zero =>
    intro p q h e hn
    exact absurd hn (by omega)
  | succ n ih =>
    intro p q h e hn H65 H66 H67 H68 HS HC HF hn2
    refine wp_go rfl rfl ?_
    refine wp_go rfl rfl ?_
    refine e_cgt rfl (fun c38 => ?_) (fun c38 => ?_)
    · skip
      rw [show p = ev by omega] at H67 H68 HS HC
      exact k h q H65 H66 H67 H68 HS HC HF
    · skip
      refine wp_go rfl rfl ?_
      refine wp_go rfl rfl ?_
      refine e_cge rfl (fun c46 => absurd c46 (by omega)) (fun c46 => ?_)
      rw [show q = ((p + 1 : Nat) : Int) by omega]
      refine wp_go rfl rfl ?_
      refine wp_go rfl rfl ?_
      refine wp_go rfl rfl ?_
      refine wp_cv rfl rfl rfl H65 rfl rfl rfl ?_
      refine c_marryLowest (by omega) hal (tz_al (by omega) (by omega)) H65 H66 H67 H68 HL HS (fun r hr hv h2 A B C E F => ?_)
      have hnf := mfn_found (lw := lw) (ls := (mit lw ls ch al p).1) (s := p + 1) (al := al) (by omega) (by omega)
      rw [← hr] at hnf
      skip
      refine e_inc (L' := [xR 65, xR 27, xI fk, xI (al : Int), xI (ev : Int), xI (((p + 1 : Nat) : Int) + 1), l6, l7]) rfl rfl (by omega) rfl ?_
      refine wp_go rfl rfl ?_
      refine ih (p + 1) _ h2 (by omega) (by omega) A B (C.trans (by rw [hr]; rfl)) (E.trans (by rw [hr]; rfl)) ?_ ?_ (HF.tr F (fun _ z => z)) trivial
      · intro t ht
        show 0 ≤ hc_u (mit lw ls ch al p).1 (p + 1) (mfn lw (mit lw ls ch al p).1 (p + 1) al).2 t ∧ hc_u (mit lw ls ch al p).1 (p + 1) (mfn lw (mit lw ls ch al p).1 (p + 1) al).2 t ≤ _
        by_cases c : t = p + 1
        · rw [c, u_at, ← hr]
          omega
        · rw [u_ne c]
          exact HS t (by omega)
      · intro t ht1 ht2
        show 0 ≤ hc_u (mit lw ls ch al p).2 (p + 1) (mfn lw (mit lw ls ch al p).1 (p + 1) al).1 t ∧ hc_u (mit lw ls ch al p).2 (p + 1) (mfn lw (mit lw ls ch al p).1 (p + 1) al).1 t < 8
        by_cases c : t = p + 1
        · rw [c, u_at, ← hr]
          omega
        · rw [u_ne c]
          exact HC t ht1 (by omega)
