/-! the class: Netting, fourth part: the most sets, all sets -/
def cit (bl sm mo : Nat → Int) : Nat → (Nat → Int) × (Nat → Int)
  | 0 => (hc_u sm 0 0, hc_u mo 0 0)
  | n + 1 => (hc_u (cit bl sm mo n).1 (n + 1) (csf bl (cit bl sm mo n).1 (cit bl sm mo n).2 (n + 1) 8).1, hc_u (cit bl sm mo n).2 (n + 1) (if (csf bl (cit bl sm mo n).1 (cit bl sm mo n).2 (n + 1) 8).1 = 0 then (csf bl (cit bl sm mo n).1 (cit bl sm mo n).2 (n + 1) 8).2 + 1 else (csf bl (cit bl sm mo n).1 (cit bl sm mo n).2 (n + 1) 8).2))
theorem pcn_pos' : ∀ s : Fin 256, 1 ≤ s.1 → 1 ≤ pcn s.1 := by decide +kernel
set_option maxRecDepth 100000 in
theorem l_cs2 {d : Nat} {h0 : hc_H} {Q : List hc_V → hc_H → Prop} {op : Nat} {pn : Int} {bl sm mo : Nat → Int} (ho : op < 256) (HB : ∀ j, j < 8 → -14414400 ≤ bl j ∧ bl j ≤ 14414400) (k : ∀ h2, h2.2.2 58 = net pn → h2.2.2 59 = ar 8 bl → h2.2.2 60 = ar 256 (cit bl sm mo op).1 → h2.2.2 61 = ar 256 (cit bl sm mo op).2 → CSB (cit bl sm mo op).1 (cit bl sm mo op).2 (op + 1) → Fr [60, 61] h0 h2 → Q [] h2) : ∀ (g p : Nat) (i : Int) (l3 l4 : hc_V) (h : hc_H), i = (p : Int) + 1 → (p ≤ op ∧ op < p + g) → h.2.2 58 = net pn → h.2.2 59 = ar 8 bl → h.2.2 60 = ar 256 (cit bl sm mo p).1 → h.2.2 61 = ar 256 (cit bl sm mo p).2 → CSB (cit bl sm mo p).1 (cit bl sm mo p).2 (p + 1) → Fr [60, 61] h0 h → True → hc_wp (d + 1) mX2_countSets 16 [xR 58, xI (op : Int), xI i, l3, l4] [] h Q := by
  intro g
  induction g with
  | zero =>
    intro p i l3 l4 h e hn
    exact absurd hn (by omega)
  | succ g ih =>
    intro p i l3 l4 h e hn H58 H59 H60 H61 HC HF hn2
    refine wp_go rfl rfl ?_
    refine wp_go rfl rfl ?_
    refine e_cgt rfl (fun c18 => ?_) (fun c18 => ?_)
    · skip
      refine wp_ret rfl rfl ?_
      rw [show p = op by omega] at H60 H61 HC
      exact k h H58 H59 H60 H61 HC HF
    · skip
      refine wp_go rfl rfl ?_
      refine wp_go rfl rfl ?_
      refine e_cge rfl (fun c25 => absurd c25 (by omega)) (fun c25 => ?_)
      rw [show i = ((p + 1 : Nat) : Int) by omega]
      refine wp_go rfl rfl ?_
      refine e_get rfl H58 rfl rfl ?_
      refine wp_go rfl rfl ?_
      refine wp_go rfl rfl ?_
      refine e_iast rfl H60 (by omega) ?_
      refine wp_go rfl rfl ?_
      refine e_get rfl H58 rfl rfl ?_
      refine wp_go rfl rfl ?_
      refine wp_go rfl rfl ?_
      refine e_iast rfl H61 (by omega) ?_
      refine wp_go rfl rfl ?_
      refine e_istn (L' := [xR 58, xI (op : Int), xI ((p + 1 : Nat) : Int), xI 0, l4]) rfl rfl rfl ?_
      rw [Int.toNat_natCast]
      have hpo : 1 ≤ pcn (p + 1) := pcn_pos' ⟨p + 1, by omega⟩ (Nat.le_add_left 1 p)
      have hp8 : pcn (p + 1) ≤ 8 := pcn_8' ⟨p + 1, by omega⟩
      refine l_cs (s := p + 1) (sm := (cit bl sm mo p).1) (mo := (cit bl sm mo p).2) (by omega) HB HC (fun h2 a b i2 l42 hm ha hbb A B C E F => ?_) 9 0 0 0 0 _ _ rfl (by omega) rfl (by omega) (by omega) H58 H59 rfl rfl Fr.rf trivial
      refine wp_go rfl rfl ?_
      refine e_get rfl A rfl rfl ?_
      refine wp_go rfl rfl ?_
      refine e_ald rfl C rfl (by omega) ?_
      rw [Int.toNat_natCast, u_at]
      refine e_ifne rfl (fun c122 => ?_) (fun c122 => ?_)
      · skip
        refine e_inc (L' := [xR 58, xI (op : Int), xI (((p + 1 : Nat) : Int) + 1), xI i2, l42]) rfl rfl (by omega) rfl ?_
        refine wp_go rfl rfl ?_
        have e1 : (cit bl sm mo (p + 1)).1 = hc_u (cit bl sm mo p).1 (p + 1) a := by
          simp only [cit]
          rw [← hm]
        have e2 : (cit bl sm mo (p + 1)).2 = hc_u (cit bl sm mo p).2 (p + 1) (b) := by
          simp only [cit]
          rw [← hm, if_neg (by dsimp only; omega)]
        refine ih (p + 1) _ _ _ _ (by omega) (by omega) A B (by rw [e1]; exact C) (by rw [e2]; exact E) ?_ (HF.tr (((Fr.rf.wr rfl).wr rfl).tr F (fun _ z => z)) (fun _ z => z)) trivial
        rw [e1, e2]
        intro t ht
        by_cases c : t = p + 1
        · rw [c, u_at, u_at]
          omega
        · rw [u_ne c, u_ne c]
          exact HC t (by omega)
      · skip
        refine wp_go rfl rfl ?_
        refine e_get rfl A rfl rfl ?_
        refine wp_go rfl rfl ?_
        refine wp_go rfl rfl ?_
        refine e_ald rfl E rfl (by omega) ?_
        rw [Int.toNat_natCast, u_at]
        refine wp_go rfl rfl ?_
        refine e_iadd rfl (by omega) ?_
        refine e_iast rfl E (by omega) ?_
        rw [Int.toNat_natCast, u_u]
        refine e_inc (L' := [xR 58, xI (op : Int), xI (((p + 1 : Nat) : Int) + 1), xI i2, l42]) rfl rfl (by omega) rfl ?_
        refine wp_go rfl rfl ?_
        have e1 : (cit bl sm mo (p + 1)).1 = hc_u (cit bl sm mo p).1 (p + 1) a := by
          simp only [cit]
          rw [← hm]
        have e2 : (cit bl sm mo (p + 1)).2 = hc_u (cit bl sm mo p).2 (p + 1) (b + 1) := by
          simp only [cit]
          rw [← hm, if_pos (by dsimp only; omega)]
        refine ih (p + 1) _ _ _ _ (by omega) (by omega) A B (by rw [e1]; exact C) (by rw [e2]; exact rfl) ?_ ((HF.tr (((Fr.rf.wr rfl).wr rfl).tr F (fun _ z => z)) (fun _ z => z)).wr rfl) trivial
        rw [e1, e2]
        intro t ht
        by_cases c : t = p + 1
        · rw [c, u_at, u_at]
          omega
        · rw [u_ne c, u_ne c]
          exact HC t (by omega)
set_option maxRecDepth 100000 in
theorem c_countSets {d : Nat} {h : hc_H} {Q : List hc_V → hc_H → Prop} {op : Nat} {pn : Int} {bl sm mo : Nat → Int} (ho : op < 256) (HB : ∀ j, j < 8 → -14414400 ≤ bl j ∧ bl j ≤ 14414400) (H58 : h.2.2 58 = net pn) (H59 : h.2.2 59 = ar 8 bl) (H60 : h.2.2 60 = ar 256 sm) (H61 : h.2.2 61 = ar 256 mo) (k : ∀ h2, h2.2.2 58 = net pn → h2.2.2 59 = ar 8 bl → h2.2.2 60 = ar 256 (cit bl sm mo op).1 → h2.2.2 61 = ar 256 (cit bl sm mo op).2 → CSB (cit bl sm mo op).1 (cit bl sm mo op).2 (op + 1) → Fr [60, 61] h h2 → Q [] h2) : hc_wp (d + 1) mX2_countSets 0 [xR 58, xI (op : Int), none, none, none] [] h Q := by
  refine wp_go rfl rfl ?_
  refine e_get rfl H58 rfl rfl ?_
  refine wp_go rfl rfl ?_
  refine wp_go rfl rfl ?_
  refine e_iast rfl H60 (by omega) ?_
  refine wp_go rfl rfl ?_
  refine e_get rfl H58 rfl rfl ?_
  refine wp_go rfl rfl ?_
  refine wp_go rfl rfl ?_
  refine e_iast rfl H61 (by omega) ?_
  refine wp_go rfl rfl ?_
  refine e_istn (L' := [xR 58, xI (op : Int), xI 1, none, none]) rfl rfl rfl ?_
  refine l_cs2 ho HB (fun h2 A B C E G F => k h2 A B C E G (Fr.tr ((Fr.rf.wr rfl).wr rfl) F (fun _ z => z))) (op + 1) 0 1 _ _ _ rfl (by omega) H58 H59 rfl rfl ?_ Fr.rf trivial
  intro t ht
  rw [show t = 0 by omega]
  show (-14414400 * ((pcn 0 : Nat) : Int) ≤ 0 ∧ (0 : Int) ≤ 14414400 * ((pcn 0 : Nat) : Int)) ∧ (0 : Int) ≤ 0 ∧ (0 : Int) ≤ ((pcn 0 : Nat) : Int)
  decide
