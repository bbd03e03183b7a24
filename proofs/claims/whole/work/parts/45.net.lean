/-! the class: Netting, second part: payments along a set -/
abbrev nst : Type := Int × (Nat → Int) × (Nat → Int) × (Nat → Int)
def stl (a b v : Int) (n : nst) : nst := if n.1 < 8 then (n.1 + 1, hc_u n.2.1 (Int.toNat n.1) (if v < 0 then a else b), hc_u n.2.2.1 (Int.toNat n.1) (if v < 0 then b else a), hc_u n.2.2.2 (Int.toNat n.1) (if 0 ≤ v then v else 0 - v)) else n
def NH (h : hc_H) (n : nst) : Prop := h.2.2 58 = net n.1 ∧ h.2.2 62 = ar 8 n.2.1 ∧ h.2.2 63 = ar 8 n.2.2.1 ∧ h.2.2 64 = ar 8 n.2.2.2
theorem stl_bd {a b v : Int} {n : nst} (h : 0 ≤ n.1 ∧ n.1 ≤ 8) : 0 ≤ (stl a b v n).1 ∧ (stl a b v n).1 ≤ 8 := by
  unfold stl
  split
  · dsimp only
    omega
  · exact h
theorem c_settle2 {d : Nat} {h : hc_H} {Q : List hc_V → hc_H → Prop} {a b v : Int} {n : nst} (H : NH h n) (hp : 0 ≤ n.1 ∧ n.1 ≤ 8) (hv : -1000000000 ≤ v ∧ v ≤ 1000000000) (k : ∀ h2, NH h2 (stl a b v n) → Fr [58, 62, 63, 64] h h2 → Q [] h2) : hc_wp (d + 1) mX2_settle 0 [xR 58, xI a, xI b, xI v] [] h Q := by
  refine c_settle H.1 H.2.1 H.2.2.1 H.2.2.2 hp hv (fun c => ?_) (fun c h2 A B C E F => ?_)
  · refine k h ?_ Fr.rf
    unfold stl
    rw [if_neg (by omega)]
    exact H
  · refine k h2 ?_ F
    unfold stl
    rw [if_pos c]
    exact ⟨A, B, C, E⟩
def pal (bl : Nat → Int) (s : Nat) (n : nst) : Nat → Int × Int × nst
  | 0 => (0, -1, n)
  | p + 1 => if Nat.testBit s p = true then ((pal bl s n p).1 + bl p, (p : Int), if (pal bl s n p).2.1 = -1 then (pal bl s n p).2.2 else stl (pal bl s n p).2.1 (p : Int) (pal bl s n p).1 (pal bl s n p).2.2) else pal bl s n p
set_option maxRecDepth 100000 in
theorem l_pal {d : Nat} {h0 : hc_H} {Q : List hc_V → hc_H → Prop} {s : Nat} {n : nst} {bl : Nat → Int} (hs : s < 256) (HB : ∀ j, j < 8 → -14414400 ≤ bl j ∧ bl j ≤ 14414400) (k : ∀ h2, NH h2 (pal bl s n 8).2.2 → (0 ≤ (pal bl s n 8).2.2.1 ∧ (pal bl s n 8).2.2.1 ≤ 8) → h2.2.2 59 = ar 8 bl → Fr [58, 62, 63, 64] h0 h2 → Q [] h2) : ∀ (g p : Nat) (c l i : Int) (m : nst) (h : hc_H), i = (p : Int) → (p ≤ 8 ∧ 8 < p + g) → pal bl s n p = (c, l, m) → (-14414400 * (p : Int) ≤ c ∧ c ≤ 14414400 * (p : Int)) → (-1 ≤ l ∧ l < 8) → (0 ≤ m.1 ∧ m.1 ≤ 8) → NH h m → h.2.2 59 = ar 8 bl → Fr [58, 62, 63, 64] h0 h → True → hc_wp (d + 2) mX2_payAlong 7 [xR 58, xI (s : Int), xI c, xI l, xI i] [] h Q := by
  intro g
  induction g with
  | zero =>
    intro p c l i m h e hn
    exact absurd hn (by omega)
  | succ g ih =>
    intro p c l i m h e hn hm hc hl hmb H H59 HF hn2
    refine wp_go rfl rfl ?_
    refine wp_go rfl rfl ?_
    refine e_cge rfl (fun c11 => ?_) (fun c11 => ?_)
    · skip
      refine wp_ret rfl rfl ?_
      rw [show p = 8 by omega] at hm
      have hk : (pal bl s n 8).2.2 = m := by rw [hm]
      rw [← hk] at H hmb
      exact k h H hmb H59 HF
    · skip
      refine wp_go rfl rfl ?_
      refine wp_go rfl rfl ?_
      refine wp_go rfl rfl ?_
      refine wp_go rfl rfl ?_
      refine wp_go rfl rfl ?_
      have eb : hc_and (hc_shr (s : Int) i) 1 = if Nat.testBit s p = true then 1 else 0 := by
        rw [e]
        exact b_test (by omega) (by omega)
      rw [eb]
      refine wp_go rfl rfl ?_
      refine e_cne rfl (fun c21 => ?_) (fun c21 => ?_)
      · skip
        refine e_inc (L' := [xR 58, xI (s : Int), xI c, xI l, xI (i + 1)]) rfl rfl (by omega) rfl ?_
        refine wp_go rfl rfl ?_
        have e1 : pal bl s n p.succ = (c, l, m) := by
          simp only [pal]
          rw [if_neg (fun z => c21 (by rw [if_pos z])), hm]
        refine ih (p + 1) _ _ _ _ h (by omega) (by omega) e1 (by omega) (by omega) hmb H H59 HF trivial
      · skip
        have hb : Nat.testBit s p = true := by
          by_cases z : Nat.testBit s p = true
          · exact z
          · rw [if_neg z] at c21
            exact absurd c21 (by omega)
        have hbl := HB p (by omega)
        refine wp_go rfl rfl ?_
        refine wp_go rfl rfl ?_
        refine e_ceq rfl (fun c26 => ?_) (fun c26 => ?_)
        · skip
          refine wp_go rfl rfl ?_
          refine wp_go rfl rfl ?_
          refine e_get rfl H.1 rfl rfl ?_
          refine wp_go rfl rfl ?_
          refine e_ald rfl H59 rfl (by omega) ?_
          rw [show Int.toNat i = p by omega]
          refine e_iadd rfl (by omega) ?_
          refine e_istn (L' := [xR 58, xI (s : Int), xI (c + (bl p)), xI l, xI i]) rfl rfl rfl ?_
          refine wp_go rfl rfl ?_
          refine e_istn (L' := [xR 58, xI (s : Int), xI (c + (bl p)), xI i, xI i]) rfl rfl rfl ?_
          refine e_inc (L' := [xR 58, xI (s : Int), xI (c + (bl p)), xI i, xI (i + 1)]) rfl rfl (by omega) rfl ?_
          refine wp_go rfl rfl ?_
          have e1 : pal bl s n p.succ = (c + bl p, (p : Int), m) := by
            simp only [pal]
            rw [hm, if_pos hb, if_pos (by dsimp only; omega)]
          refine ih (p + 1) _ _ _ _ h (by omega) (by omega) (e1.trans (by rw [e])) (by omega) (by omega) hmb H H59 HF trivial
        · skip
          refine wp_go rfl rfl ?_
          refine wp_go rfl rfl ?_
          refine wp_go rfl rfl ?_
          refine wp_go rfl rfl ?_
          refine wp_cv rfl rfl rfl H.1 rfl rfl rfl ?_
          refine c_settle2 H hmb (by omega) (fun h2 A F => ?_)
          have A59 := (F.2.2 59 rfl).trans H59
          refine wp_go rfl rfl ?_
          refine wp_go rfl rfl ?_
          refine e_get rfl A.1 rfl rfl ?_
          refine wp_go rfl rfl ?_
          refine e_ald rfl A59 rfl (by omega) ?_
          rw [show Int.toNat i = p by omega]
          refine e_iadd rfl (by omega) ?_
          refine e_istn (L' := [xR 58, xI (s : Int), xI (c + (bl p)), xI l, xI i]) rfl rfl rfl ?_
          refine wp_go rfl rfl ?_
          refine e_istn (L' := [xR 58, xI (s : Int), xI (c + (bl p)), xI i, xI i]) rfl rfl rfl ?_
          refine e_inc (L' := [xR 58, xI (s : Int), xI (c + (bl p)), xI i, xI (i + 1)]) rfl rfl (by omega) rfl ?_
          refine wp_go rfl rfl ?_
          have e1 : pal bl s n p.succ = (c + bl p, (p : Int), stl l i c m) := by
            simp only [pal]
            rw [hm, if_pos hb, if_neg (by dsimp only; omega), e]
          refine ih (p + 1) _ _ _ _ h2 (by omega) (by omega) (e1.trans (by rw [e])) (by omega) (by omega) (stl_bd hmb) A A59 (HF.tr F (fun _ z => z)) trivial
set_option maxRecDepth 100000 in
theorem c_payAlong {d : Nat} {h : hc_H} {Q : List hc_V → hc_H → Prop} {s : Nat} {n : nst} {bl : Nat → Int} (hs : s < 256) (HB : ∀ j, j < 8 → -14414400 ≤ bl j ∧ bl j ≤ 14414400) (H : NH h n) (hnb : 0 ≤ n.1 ∧ n.1 ≤ 8) (H59 : h.2.2 59 = ar 8 bl) (k : ∀ h2, NH h2 (pal bl s n 8).2.2 → (0 ≤ (pal bl s n 8).2.2.1 ∧ (pal bl s n 8).2.2.1 ≤ 8) → h2.2.2 59 = ar 8 bl → Fr [58, 62, 63, 64] h h2 → Q [] h2) : hc_wp (d + 2) mX2_payAlong 0 [xR 58, xI (s : Int), none, none, none] [] h Q := by
  refine wp_go rfl rfl ?_
  refine e_istn (L' := [xR 58, xI (s : Int), xI 0, none, none]) rfl rfl rfl ?_
  refine wp_go rfl rfl ?_
  refine e_istn (L' := [xR 58, xI (s : Int), xI 0, xI (-1), none]) rfl rfl rfl ?_
  refine wp_go rfl rfl ?_
  refine e_ist (L' := [xR 58, xI (s : Int), xI 0, xI (-1), xI 0]) rfl rfl rfl ?_
  exact l_pal hs HB k 9 0 0 (-1) 0 n h rfl (by omega) rfl (by omega) (by omega) hnb H H59 Fr.rf trivial
