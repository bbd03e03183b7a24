/-! the reference: lowest, most -/
def fmt (sm mo_ : Nat → Int) (S : Nat) (v : Int) (T : Nat) : Int := if dif T S = 0 ∧ Nat.testBit T (tz S) = true ∧ sm T = 0 ∧ 0 ≤ mo_ (dif S T) ∧ v < mo_ (dif S T) + 1 then mo_ (dif S T) + 1 else v
def fmS (sm mo_ : Nat → Int) (S : Nat) : Nat → Int
  | 0 => -1
  | n + 1 => fmt sm mo_ S (fmS sm mo_ S n) (n + 1)
theorem dif_bt {s t p : Nat} (h : Nat.testBit t p = true) : Nat.testBit (dif s t) p = false := by
  unfold dif
  rw [Nat.testBit_xor, Nat.testBit_and, h, Bool.and_true, Bool.xor_self]
theorem dif_ne {s t p : Nat} (h : Nat.testBit t p = true) (h2 : Nat.testBit s p = true) : dif s t ≠ s := by
  intro e
  have := dif_bt (s := s) h
  rw [e, h2] at this
  exact nomatch this
set_option maxRecDepth 100000 in
theorem c_mhas1 {d : Nat} {h : hc_H} {Q : List hc_V → hc_H → Prop} {s p : Nat} (hs : s < 256) (hp : p < 8) (hb : Nat.testBit s p = true) (k : Q [xI 1] h) : hc_wp d mX10_has 0 [xI (s : Int), xI (p : Int)] [] h Q := by
  refine wp_go rfl rfl ?_
  refine wp_go rfl rfl ?_
  refine wp_go rfl rfl ?_
  refine wp_go rfl rfl ?_
  refine wp_go rfl rfl ?_
  rw [b_test hs hp, if_pos hb]
  refine wp_go rfl rfl ?_
  refine wp_go rfl rfl ?_
  refine wp_go rfl rfl ?_
  refine wp_go rfl rfl ?_
  refine wp_ret rfl rfl ?_
  exact k
set_option maxRecDepth 100000 in
theorem c_mhas0 {d : Nat} {h : hc_H} {Q : List hc_V → hc_H → Prop} {s p : Nat} (hs : s < 256) (hp : p < 8) (hb : Nat.testBit s p = false) (k : Q [xI 0] h) : hc_wp d mX10_has 0 [xI (s : Int), xI (p : Int)] [] h Q := by
  refine wp_go rfl rfl ?_
  refine wp_go rfl rfl ?_
  refine wp_go rfl rfl ?_
  refine wp_go rfl rfl ?_
  refine wp_go rfl rfl ?_
  rw [b_test hs hp, if_neg (by rw [hb]; decide)]
  refine wp_go rfl rfl ?_
  refine wp_go rfl rfl ?_
  refine wp_go rfl rfl ?_
  refine wp_ret rfl rfl ?_
  exact k
theorem c_mhas {d : Nat} {h : hc_H} {Q : List hc_V → hc_H → Prop} {s p : Nat} (hs : s < 256) (hp : p < 8) (kt : Nat.testBit s p = true → Q [xI 1] h) (kf : Nat.testBit s p = false → Q [xI 0] h) : hc_wp d mX10_has 0 [xI (s : Int), xI (p : Int)] [] h Q := by
  cases e : Nat.testBit s p with
  | true => exact c_mhas1 hs hp e (kt e)
  | false => exact c_mhas0 hs hp e (kf e)
set_option maxRecDepth 100000 in
theorem l_mlow {d : Nat} {h : hc_H} {Q : List hc_V → hc_H → Prop} {s : Nat} (h1 : 1 ≤ s) (hs : s < 256) (k : Q [xI ((tz s : Nat) : Int)] h) : ∀ (n j : Nat), (j ≤ tz s ∧ tz s < j + n) → hc_wp (d + 1) mX10_lowestOf 2 [xI (s : Int), xI (j : Int)] [] h Q := by
  have hz := tz_at h1 hs
  intro n
  induction n with
  | zero =>
    intro j hj
    exact absurd hj (by omega)
  | succ n ih =>
    intro j hj
    refine wp_go rfl rfl ?_
    refine wp_go rfl rfl ?_
    refine wp_call rfl rfl rfl rfl ?_
    refine c_mhas (s := s) (p := j) hs (by omega)  (fun q4 => ?_) (fun q4 => ?_)
    · skip
      refine wp_go rfl rfl ?_
      refine wp_go rfl rfl ?_
      refine wp_ret rfl rfl ?_
      have hje : j = tz s := by
        by_cases c : j < tz s
        · have := tz_lo h1 hs c
          rw [q4] at this
          exact nomatch this
        · omega
      rw [hje]
      exact k
    · skip
      refine wp_go rfl rfl ?_
      refine e_inc (L' := [xI (s : Int), xI ((j : Int) + 1)]) rfl rfl (by omega) rfl ?_
      refine wp_go rfl rfl ?_
      have hne : j ≠ tz s := fun z => by rw [z, hz.2] at q4; exact nomatch q4
      exact ih (j + 1) (by omega)
set_option maxRecDepth 100000 in
theorem c_mlow {d : Nat} {h : hc_H} {Q : List hc_V → hc_H → Prop} {s : Nat} (h1 : 1 ≤ s) (hs : s < 256) (k : Q [xI ((tz s : Nat) : Int)] h) : hc_wp (d + 1) mX10_lowestOf 0 [xI (s : Int), none] [] h Q := by
  refine wp_go rfl rfl ?_
  refine e_istn (L' := [xI (s : Int), xI 0]) rfl rfl rfl ?_
  exact l_mlow h1 hs k (tz s + 1) 0 (by omega)
