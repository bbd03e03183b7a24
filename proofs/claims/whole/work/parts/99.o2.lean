/-! the reference: payments along a set -/
def cnb (S : Nat) : Nat → Nat
  | 0 => 0
  | p + 1 => cnb S p + (if Nat.testBit S p = true then 1 else 0)
theorem cnb_mono {S : Nat} : ∀ (n p : Nat), cnb S p ≤ cnb S (p + n)
  | 0, _ => Nat.le_refl _
  | n + 1, p => by
    have := cnb_mono (S := S) n p
    show cnb S p ≤ cnb S (p + n) + _
    omega
theorem cnb_le {S p q : Nat} (h : p ≤ q) : cnb S p ≤ cnb S q := by
  have := cnb_mono (S := S) (q - p) p
  rw [show p + (q - p) = q by omega] at this
  exact this
def PR (P : Nat → Int) (n : nst) : Prop := ∀ i : Nat, (i : Int) < n.1 → P (3 * i) = n.2.1 i ∧ P (3 * i + 1) = n.2.2.1 i ∧ P (3 * i + 2) = n.2.2.2 i
theorem PR.st {P : Nat → Int} {n : nst} {a b v A B V : Int} {q : Nat} (H : PR P n) (hq : n.1 = (q : Int)) (h8 : q < 8) (hA : A = if v < 0 then a else b) (hB : B = if v < 0 then b else a) (hV : V = if 0 ≤ v then v else 0 - v) : PR (hc_u (hc_u (hc_u P (3 * q) A) (3 * q + 1) B) (3 * q + 2) V) (stl a b v n) := by
  have e : stl a b v n = ((q : Int) + 1, hc_u n.2.1 q A, hc_u n.2.2.1 q B, hc_u n.2.2.2 q V) := by
    unfold stl
    rw [if_pos (by omega), hq, Int.toNat_natCast, hA, hB, hV]
  rw [e]
  intro i hi
  have hi2 : (i : Int) < (q : Int) + 1 := hi
  by_cases z : i = q
  · rw [z]
    refine ⟨?_, ?_, ?_⟩
    · rw [hu_n (by omega), hu_n (by omega), hu_s]
      exact hu_s.symm
    · rw [hu_n (by omega), hu_s]
      exact hu_s.symm
    · rw [hu_s]
      exact hu_s.symm
  · have h3 := H i (by omega)
    refine ⟨?_, ?_, ?_⟩
    · rw [hu_n (by omega), hu_n (by omega), hu_n (by omega), h3.1]
      exact (hu_n z).symm
    · rw [hu_n (by omega), hu_n (by omega), hu_n (by omega), h3.2.1]
      exact (hu_n z).symm
    · rw [hu_n (by omega), hu_n (by omega), hu_n (by omega), h3.2.2]
      exact (hu_n z).symm
set_option maxRecDepth 100000 in
theorem l_mpair {d : Nat} {h0 : hc_H} {Q : List hc_V → hc_H → Prop} {S n0 : Nat} {n : nst} {s B : Nat → Int} (hS : S < 256) (HB : ∀ j, j < 8 → -14414400 ≤ B j ∧ B j ≤ 14414400) (hn0 : n0 + cnb S 8 ≤ 8) (k : ∀ (h2 : hc_H) (q : Nat) (s2 P2 : Nat → Int), (pal B S n 8).2.2.1 = (q : Int) → q + 1 ≤ n0 + (cnb S 8 + (if cnb S 8 = 0 then 1 else 0)) → PR P2 (pal B S n 8).2.2 → s2 30 = (q : Int) → ME [30] s s2 → h2.2.2 71 = mo s2 → h2.2.2 80 = ar 8 B → h2.2.2 83 = ar 24 P2 → Fr [71, 83] h0 h2 → Q [] h2) : ∀ (g p : Nat) (c l : Int) (l5 : hc_V) (m : nst) (q : Nat) (s1 P : Nat → Int) (h : hc_H), (p ≤ 8 ∧ 8 < p + g) → pal B S n p = (c, l, m) → (-14414400 * (p : Int) ≤ c ∧ c ≤ 14414400 * (p : Int)) → (-1 ≤ l ∧ l < 8) → m.1 = (q : Int) → ((l = -1 ∧ q = n0 ∧ cnb S p = 0) ∨ (0 ≤ l ∧ q + 1 = n0 + cnb S p)) → ME [30] s s1 → h.2.2 71 = mo s1 → h.2.2 80 = ar 8 B → h.2.2 83 = ar 24 P → PR P m → Fr [71, 83] h0 h → s1 30 = (q : Int) → hc_wp (d + 1) mX10_pairOff 7 [xR 71, xI (S : Int), xI c, xI l, xI (p : Int), l5] [] h Q := by
  intro g
  induction g with
  | zero =>
    intro p c l l5 m q s1 P h hn
    exact absurd hn (by omega)
  | succ g ih =>
    intro p c l l5 m q s1 P h hn hm hc hl hq hqn hme H71 H80 H83 HP HF e30
    refine wp_go rfl rfl ?_
    refine wp_go rfl rfl ?_
    refine e_cge rfl (fun c11 => ?_) (fun c11 => ?_)
    · skip
      refine wp_ret rfl rfl ?_
      have hp8 : p = 8 := by omega
      rw [hp8] at hm
      have hk : (pal B S n 8).2.2 = m := by rw [hm]
      rw [hp8] at hqn
      exact k h q s1 P (by rw [hk]; exact hq) (by split <;> omega) (by rw [hk]; exact HP) e30 hme H71 H80 H83 HF
    · skip
      refine wp_go rfl rfl ?_
      refine wp_go rfl rfl ?_
      refine wp_call rfl rfl rfl rfl ?_
      refine c_mhas (s := S) (p := p) hS (by omega)  (fun q17 => ?_) (fun q17 => ?_)
      · skip
        refine wp_go rfl rfl ?_
        have hcs : cnb S (p + 1) = cnb S p + 1 := by rw [cnb, if_pos q17]
        have hc8 := cnb_le (S := S) (show p + 1 ≤ 8 by omega)
        have hbp := HB p (by omega)
        refine wp_go rfl rfl ?_
        refine e_iflt rfl (fun c27 => ?_) (fun c27 => ?_)
        · skip
          refine wp_go rfl rfl ?_
          refine wp_go rfl rfl ?_
          refine e_get rfl H71 rfl rfl ?_
          refine wp_go rfl rfl ?_
          refine e_aldE (p := p) rfl H80 rfl ⟨by omega, by omega⟩ ?_
          refine e_iadd rfl (by omega) ?_
          refine e_istn (L' := [xR 71, xI (S : Int), xI (c + (B p)), xI l, xI (p : Int), l5]) rfl rfl rfl ?_
          refine wp_go rfl rfl ?_
          refine e_istn (L' := [xR 71, xI (S : Int), xI (c + (B p)), xI (p : Int), xI (p : Int), l5]) rfl rfl rfl ?_
          refine e_inc (L' := [xR 71, xI (S : Int), xI (c + (B p)), xI (p : Int), xI ((p : Int) + 1), l5]) rfl rfl (by omega) rfl ?_
          refine wp_go rfl rfl ?_
          have e1 : pal B S n (p + 1) = (c + B p, (p : Int), m) := by
            rw [pal, if_pos q17, hm, if_pos (by dsimp only; omega)]
          exact ih (p + 1) _ _ _ _ _ _ _ _ (by omega) e1 (by omega) (by omega) hq (by omega) hme H71 H80 H83 HP HF e30
        · skip
          have H71p : h.2.2 71 = .inr (10, [xR 72, xR 73, xR 74, xR 75, xI (s1 4), xI (s1 5), xI (s1 6), xI (s1 7), xI (s1 8), xI (s1 9), xI (s1 10), xL (s1 11), xI (s1 12), xI (s1 13), xI (s1 14), xI (s1 15), xR 76, xI (s1 17), xI (s1 18), xI (s1 19), xI (s1 20), xI (s1 21), xI (s1 22), xR 77, xR 78, xR 79, xR 80, xR 81, xR 82, xR 83, xI (q : Int), xR 84, xR 85, xR 86, xR 87, xR 88, xR 89, xR 90]) := by rw [← e30]; exact H71
          refine wp_go rfl rfl ?_
          refine wp_go rfl rfl ?_
          refine e_get rfl H71p rfl rfl ?_
          refine e_imul rfl (by omega) ?_
          rw [show (3 : Int) * (q : Int) = ((3 * q : Nat) : Int) by omega]
          refine e_ist (L' := [xR 71, xI (S : Int), xI c, xI l, xI (p : Int), xI ((3 * q : Nat) : Int)]) rfl rfl rfl ?_
          refine wp_go rfl rfl ?_
          refine e_get rfl H71p rfl rfl ?_
          refine wp_go rfl rfl ?_
          refine wp_go rfl rfl ?_
          refine e_ifge rfl (fun c45 => ?_) (fun c45 => ?_)
          · skip
            refine wp_go rfl rfl ?_
            refine e_iastE (p := 3 * q) rfl H83 ⟨by omega, by omega⟩ ?_
            refine wp_go rfl rfl ?_
            refine e_get rfl H71p rfl rfl ?_
            refine wp_go rfl rfl ?_
            refine wp_go rfl rfl ?_
            refine e_iadd rfl (by omega) ?_
            refine wp_go rfl rfl ?_
            refine e_ifge rfl (fun c64 => ?_) (fun c64 => absurd c64 (by omega))
            refine wp_go rfl rfl ?_
            refine e_iastE (p := 3 * q + 1) rfl rfl ⟨by omega, by omega⟩ ?_
            refine wp_go rfl rfl ?_
            refine e_get rfl H71p rfl rfl ?_
            refine wp_go rfl rfl ?_
            refine wp_go rfl rfl ?_
            refine e_iadd rfl (by omega) ?_
            refine wp_go rfl rfl ?_
            refine e_ifge rfl (fun c83 => ?_) (fun c83 => absurd c83 (by omega))
            refine wp_go rfl rfl ?_
            refine e_iastE (p := 3 * q + 2) rfl rfl ⟨by omega, by omega⟩ ?_
            refine wp_go rfl rfl ?_
            refine wp_go rfl rfl ?_
            refine e_get rfl H71p rfl rfl ?_
            refine wp_go rfl rfl ?_
            refine e_iadd rfl (by omega) ?_
            refine e_put (fs' := [xR 72, xR 73, xR 74, xR 75, xI (s1 4), xI (s1 5), xI (s1 6), xI (s1 7), xI (s1 8), xI (s1 9), xI (s1 10), xL (s1 11), xI (s1 12), xI (s1 13), xI (s1 14), xI (s1 15), xR 76, xI (s1 17), xI (s1 18), xI (s1 19), xI (s1 20), xI (s1 21), xI (s1 22), xR 77, xR 78, xR 79, xR 80, xR 81, xR 82, xR 83, xI ((q : Int) + 1), xR 84, xR 85, xR 86, xR 87, xR 88, xR 89, xR 90]) rfl H71p rfl rfl ?_
            refine wp_go rfl rfl ?_
            refine wp_go rfl rfl ?_
            refine e_get rfl rfl rfl rfl ?_
            refine wp_go rfl rfl ?_
            refine e_aldE (p := p) rfl H80 rfl ⟨by omega, by omega⟩ ?_
            refine e_iadd rfl (by omega) ?_
            refine e_istn (L' := [xR 71, xI (S : Int), xI (c + (B p)), xI l, xI (p : Int), xI ((3 * q : Nat) : Int)]) rfl rfl rfl ?_
            refine wp_go rfl rfl ?_
            refine e_istn (L' := [xR 71, xI (S : Int), xI (c + (B p)), xI (p : Int), xI (p : Int), xI ((3 * q : Nat) : Int)]) rfl rfl rfl ?_
            refine e_inc (L' := [xR 71, xI (S : Int), xI (c + (B p)), xI (p : Int), xI ((p : Int) + 1), xI ((3 * q : Nat) : Int)]) rfl rfl (by omega) rfl ?_
            refine wp_go rfl rfl ?_
            have e1 : pal B S n (p + 1) = (c + B p, (p : Int), stl l (p : Int) c m) := by
              rw [pal, if_pos q17, hm, if_neg (by dsimp only; omega)]
            have e3 : (stl l (p : Int) c m).1 = ((q + 1 : Nat) : Int) := by
              unfold stl
              rw [if_pos (by omega)]
              dsimp only
              omega
            have e4 := HP.st (a := l) (b := (p : Int)) (v := c) (A := (p : Int)) (B := l) (V := c) hq (by omega) (by rw [if_neg (by omega)]) (by rw [if_neg (by omega)]) (by rw [if_pos (by omega)])
            exact ih (p + 1) _ _ _ _ (q + 1) (hc_u s1 30 ((q : Int) + 1)) _ _ (by omega) e1 (by omega) (by omega) e3 (by omega) (hme.u rfl) rfl H80 rfl e4 ((((HF.wr rfl).wr rfl).wr rfl).wr rfl) rfl
          · skip
            refine wp_go rfl rfl ?_
            refine wp_go rfl rfl ?_
            refine e_iastE (p := 3 * q) rfl H83 ⟨by omega, by omega⟩ ?_
            refine wp_go rfl rfl ?_
            refine e_get rfl H71p rfl rfl ?_
            refine wp_go rfl rfl ?_
            refine wp_go rfl rfl ?_
            refine e_iadd rfl (by omega) ?_
            refine wp_go rfl rfl ?_
            refine e_ifge rfl (fun c64 => absurd c64 (by omega)) (fun c64 => ?_)
            refine wp_go rfl rfl ?_
            refine wp_go rfl rfl ?_
            refine e_iastE (p := 3 * q + 1) rfl rfl ⟨by omega, by omega⟩ ?_
            refine wp_go rfl rfl ?_
            refine e_get rfl H71p rfl rfl ?_
            refine wp_go rfl rfl ?_
            refine wp_go rfl rfl ?_
            refine e_iadd rfl (by omega) ?_
            refine wp_go rfl rfl ?_
            refine e_ifge rfl (fun c83 => absurd c83 (by omega)) (fun c83 => ?_)
            refine wp_go rfl rfl ?_
            refine e_ineg rfl (by omega) ?_
            refine wp_go rfl rfl ?_
            refine e_iastE (p := 3 * q + 2) rfl rfl ⟨by omega, by omega⟩ ?_
            refine wp_go rfl rfl ?_
            refine wp_go rfl rfl ?_
            refine e_get rfl H71p rfl rfl ?_
            refine wp_go rfl rfl ?_
            refine e_iadd rfl (by omega) ?_
            refine e_put (fs' := [xR 72, xR 73, xR 74, xR 75, xI (s1 4), xI (s1 5), xI (s1 6), xI (s1 7), xI (s1 8), xI (s1 9), xI (s1 10), xL (s1 11), xI (s1 12), xI (s1 13), xI (s1 14), xI (s1 15), xR 76, xI (s1 17), xI (s1 18), xI (s1 19), xI (s1 20), xI (s1 21), xI (s1 22), xR 77, xR 78, xR 79, xR 80, xR 81, xR 82, xR 83, xI ((q : Int) + 1), xR 84, xR 85, xR 86, xR 87, xR 88, xR 89, xR 90]) rfl H71p rfl rfl ?_
            refine wp_go rfl rfl ?_
            refine wp_go rfl rfl ?_
            refine e_get rfl rfl rfl rfl ?_
            refine wp_go rfl rfl ?_
            refine e_aldE (p := p) rfl H80 rfl ⟨by omega, by omega⟩ ?_
            refine e_iadd rfl (by omega) ?_
            refine e_istn (L' := [xR 71, xI (S : Int), xI (c + (B p)), xI l, xI (p : Int), xI ((3 * q : Nat) : Int)]) rfl rfl rfl ?_
            refine wp_go rfl rfl ?_
            refine e_istn (L' := [xR 71, xI (S : Int), xI (c + (B p)), xI (p : Int), xI (p : Int), xI ((3 * q : Nat) : Int)]) rfl rfl rfl ?_
            refine e_inc (L' := [xR 71, xI (S : Int), xI (c + (B p)), xI (p : Int), xI ((p : Int) + 1), xI ((3 * q : Nat) : Int)]) rfl rfl (by omega) rfl ?_
            refine wp_go rfl rfl ?_
            have e1 : pal B S n (p + 1) = (c + B p, (p : Int), stl l (p : Int) c m) := by
              rw [pal, if_pos q17, hm, if_neg (by dsimp only; omega)]
            have e3 : (stl l (p : Int) c m).1 = ((q + 1 : Nat) : Int) := by
              unfold stl
              rw [if_pos (by omega)]
              dsimp only
              omega
            have e4 := HP.st (a := l) (b := (p : Int)) (v := c) (A := l) (B := (p : Int)) (V := -c) hq (by omega) (by rw [if_pos (by omega)]) (by rw [if_pos (by omega)]) (by rw [if_neg (by omega)]; omega)
            exact ih (p + 1) _ _ _ _ (q + 1) (hc_u s1 30 ((q : Int) + 1)) _ _ (by omega) e1 (by omega) (by omega) e3 (by omega) (hme.u rfl) rfl H80 rfl e4 ((((HF.wr rfl).wr rfl).wr rfl).wr rfl) rfl
      · skip
        refine wp_go rfl rfl ?_
        refine wp_go rfl rfl ?_
        refine e_inc (L' := [xR 71, xI (S : Int), xI c, xI l, xI ((p : Int) + 1), l5]) rfl rfl (by omega) rfl ?_
        refine wp_go rfl rfl ?_
        have e1 : pal B S n (p + 1) = (c, l, m) := by
          rw [pal, if_neg (by rw [q17]; decide), hm]
        have e2 : cnb S (p + 1) = cnb S p := by rw [cnb, if_neg (by rw [q17]; decide)]; rfl
        exact ih (p + 1) _ _ _ _ _ _ _ _ (by omega) e1 (by omega) hl hq (by omega) hme H71 H80 H83 HP HF e30
set_option maxRecDepth 100000 in
theorem c_mpair {d : Nat} {h : hc_H} {Q : List hc_V → hc_H → Prop} {S n0 : Nat} {n : nst} {s B P : Nat → Int} (hS : S < 256) (HB : ∀ j, j < 8 → -14414400 ≤ B j ∧ B j ≤ 14414400) (hn0 : n0 + cnb S 8 ≤ 8) (hq : n.1 = (n0 : Int)) (e30 : s 30 = (n0 : Int)) (H71 : h.2.2 71 = mo s) (H80 : h.2.2 80 = ar 8 B) (H83 : h.2.2 83 = ar 24 P) (HP : PR P n) (k : ∀ (h2 : hc_H) (q : Nat) (s2 P2 : Nat → Int), (pal B S n 8).2.2.1 = (q : Int) → q + 1 ≤ n0 + (cnb S 8 + (if cnb S 8 = 0 then 1 else 0)) → PR P2 (pal B S n 8).2.2 → s2 30 = (q : Int) → ME [30] s s2 → h2.2.2 71 = mo s2 → h2.2.2 80 = ar 8 B → h2.2.2 83 = ar 24 P2 → Fr [71, 83] h h2 → Q [] h2) : hc_wp (d + 1) mX10_pairOff 0 [xR 71, xI (S : Int), none, none, none, none] [] h Q := by
  refine wp_go rfl rfl ?_
  refine e_istn (L' := [xR 71, xI (S : Int), xI 0, none, none, none]) rfl rfl rfl ?_
  refine wp_go rfl rfl ?_
  refine e_istn (L' := [xR 71, xI (S : Int), xI 0, xI (-1), none, none]) rfl rfl rfl ?_
  refine wp_go rfl rfl ?_
  refine e_ist (L' := [xR 71, xI (S : Int), xI 0, xI (-1), xI 0, none]) rfl rfl rfl ?_
  exact l_mpair hS HB hn0 k 9 0 0 (-1) none n n0 s P h (by omega) rfl (by omega) (by omega) hq (by left; exact ⟨rfl, rfl, rfl⟩) ME.rf H71 H80 H83 HP Fr.rf e30
