/-! the reference: its pile -/
def rkm (o : Int) : Int := if 40 ≤ o then 0 else if o = 22 then 1 else if o = 21 then 2 else if o = 20 then 3 else if 10 ≤ o then 4 else if o = 2 then 7 else if 5 ≤ o then 6 else 5
def PL (f : Nat → Int) : List Int → Prop
  | [] => True
  | x :: r => f r.length = x ∧ PL f r
def mki : List Int → Int
  | [] => -1
  | x :: r => if 40 ≤ x then (r.length : Int) else mki r
def mkk : List Int → Int
  | [] => -1
  | x :: r => if 40 ≤ x then x else mkk r
def kop (ps : List Int) : Int := if mki ps < 0 then 40 else mkk ps
def cmq : List Int → Bool
  | [] => false
  | x :: r => if 4 < rkm x then cmq r else decide (rkm x = 4)
def aah (ps : List Int) : Bool := decide (kop ps = 41) && (match ps with
  | [] => true
  | x :: _ => decide (x = 41) || decide (1 ≤ rkm x ∧ rkm x ≤ 3))
def cnt : List Int → Int
  | [] => 0
  | x :: r => cnt r + (if x = 2 ∨ x = 20 then 1 else 0)
def CDS (T : Nat → Int) (c : Nat) : Nat → List Int → Prop
  | _, [] => True
  | w, x :: r => T (c + 2 * w) = x ∧ T (c + 2 * w + 1) = 0 ∧ CDS T c (w + 1) r
/-- from code w on, len codes are new; what stands outside is as it was -/
def SAM (T T2 : Nat → Int) (c w len : Nat) : Prop := ∀ a, a < c + 2 * w ∨ c + 2 * (w + len) ≤ a → T2 a = T a
theorem mki_bd : ∀ ps : List Int, -1 ≤ mki ps ∧ mki ps < (ps.length : Int)
  | [] => by simp [mki]
  | x :: r => by
    have := mki_bd r
    rw [mki, List.length_cons]
    split <;> omega
theorem PL_mk {f : Nat → Int} : ∀ ps : List Int, PL f ps → 0 ≤ mki ps → f (mki ps).toNat = mkk ps ∧ 40 ≤ mkk ps
  | [], _, h => absurd h (by simp [mki])
  | x :: r, hp, h => by
    rw [mki] at h ⊢
    rw [mkk]
    by_cases c : 40 ≤ x
    · rw [if_pos c, if_pos c]
      exact ⟨hp.1, c⟩
    · rw [if_neg c] at h ⊢
      rw [if_neg c]
      exact PL_mk r hp.2 h
theorem CDS_eq {T T2 : Nat → Int} {c : Nat} : ∀ (l : List Int) (w : Nat), CDS T c w l → (∀ a, c + 2 * w ≤ a → a < c + 2 * (w + l.length) → T2 a = T a) → CDS T2 c w l
  | [], _, _, _ => trivial
  | x :: r, w, h, e => by
    rw [List.length_cons] at e
    exact ⟨(e _ (by omega) (by omega)).trans h.1, (e _ (by omega) (by omega)).trans h.2.1, CDS_eq r (w + 1) h.2.2 (fun a h1 h2 => e a (by omega) (by omega))⟩
set_option maxRecDepth 100000 in
theorem c_rank {d : Nat} {h : hc_H} {Q : List hc_V → hc_H → Prop} {x : Int} (k : Q [xI (rkm x)] h) : hc_wp d mX10_rank 0 [xI x] [] h Q := by
  refine wp_go rfl rfl ?_
  refine wp_go rfl rfl ?_
  refine e_clt rfl (fun c3 => ?_) (fun c3 => ?_)
  · skip
    refine wp_go rfl rfl ?_
    refine wp_go rfl rfl ?_
    refine e_cne rfl (fun c13 => ?_) (fun c13 => ?_)
    · skip
      refine wp_go rfl rfl ?_
      refine wp_go rfl rfl ?_
      refine e_cne rfl (fun c23 => ?_) (fun c23 => ?_)
      · skip
        refine wp_go rfl rfl ?_
        refine wp_go rfl rfl ?_
        refine e_cne rfl (fun c33 => ?_) (fun c33 => ?_)
        · skip
          refine wp_go rfl rfl ?_
          refine wp_go rfl rfl ?_
          refine e_clt rfl (fun c43 => ?_) (fun c43 => ?_)
          · skip
            refine wp_go rfl rfl ?_
            refine wp_go rfl rfl ?_
            refine e_cne rfl (fun c52 => ?_) (fun c52 => ?_)
            · skip
              refine wp_go rfl rfl ?_
              refine wp_go rfl rfl ?_
              refine e_clt rfl (fun c62 => ?_) (fun c62 => ?_)
              · skip
                refine wp_go rfl rfl ?_
                refine wp_ret rfl rfl ?_
                rw [show rkm x = 5 by unfold rkm; first | (rw [if_pos (by omega)]) | (rw [if_neg (by omega), if_pos (by omega)]) | (rw [if_neg (by omega), if_neg (by omega), if_pos (by omega)]) | (rw [if_neg (by omega), if_neg (by omega), if_neg (by omega), if_pos (by omega)]) | (rw [if_neg (by omega), if_neg (by omega), if_neg (by omega), if_neg (by omega), if_pos (by omega)]) | (rw [if_neg (by omega), if_neg (by omega), if_neg (by omega), if_neg (by omega), if_neg (by omega), if_pos (by omega)]) | (rw [if_neg (by omega), if_neg (by omega), if_neg (by omega), if_neg (by omega), if_neg (by omega), if_neg (by omega), if_pos (by omega)]) | (rw [if_neg (by omega), if_neg (by omega), if_neg (by omega), if_neg (by omega), if_neg (by omega), if_neg (by omega), if_neg (by omega)])] at k
                exact k
              · skip
                refine wp_go rfl rfl ?_
                refine wp_go rfl rfl ?_
                refine wp_ret rfl rfl ?_
                rw [show rkm x = 6 by unfold rkm; first | (rw [if_pos (by omega)]) | (rw [if_neg (by omega), if_pos (by omega)]) | (rw [if_neg (by omega), if_neg (by omega), if_pos (by omega)]) | (rw [if_neg (by omega), if_neg (by omega), if_neg (by omega), if_pos (by omega)]) | (rw [if_neg (by omega), if_neg (by omega), if_neg (by omega), if_neg (by omega), if_pos (by omega)]) | (rw [if_neg (by omega), if_neg (by omega), if_neg (by omega), if_neg (by omega), if_neg (by omega), if_pos (by omega)]) | (rw [if_neg (by omega), if_neg (by omega), if_neg (by omega), if_neg (by omega), if_neg (by omega), if_neg (by omega), if_pos (by omega)]) | (rw [if_neg (by omega), if_neg (by omega), if_neg (by omega), if_neg (by omega), if_neg (by omega), if_neg (by omega), if_neg (by omega)])] at k
                exact k
            · skip
              refine wp_go rfl rfl ?_
              refine wp_go rfl rfl ?_
              refine wp_ret rfl rfl ?_
              rw [show rkm x = 7 by unfold rkm; first | (rw [if_pos (by omega)]) | (rw [if_neg (by omega), if_pos (by omega)]) | (rw [if_neg (by omega), if_neg (by omega), if_pos (by omega)]) | (rw [if_neg (by omega), if_neg (by omega), if_neg (by omega), if_pos (by omega)]) | (rw [if_neg (by omega), if_neg (by omega), if_neg (by omega), if_neg (by omega), if_pos (by omega)]) | (rw [if_neg (by omega), if_neg (by omega), if_neg (by omega), if_neg (by omega), if_neg (by omega), if_pos (by omega)]) | (rw [if_neg (by omega), if_neg (by omega), if_neg (by omega), if_neg (by omega), if_neg (by omega), if_neg (by omega), if_pos (by omega)]) | (rw [if_neg (by omega), if_neg (by omega), if_neg (by omega), if_neg (by omega), if_neg (by omega), if_neg (by omega), if_neg (by omega)])] at k
              exact k
          · skip
            refine wp_go rfl rfl ?_
            refine wp_go rfl rfl ?_
            refine wp_ret rfl rfl ?_
            rw [show rkm x = 4 by unfold rkm; first | (rw [if_pos (by omega)]) | (rw [if_neg (by omega), if_pos (by omega)]) | (rw [if_neg (by omega), if_neg (by omega), if_pos (by omega)]) | (rw [if_neg (by omega), if_neg (by omega), if_neg (by omega), if_pos (by omega)]) | (rw [if_neg (by omega), if_neg (by omega), if_neg (by omega), if_neg (by omega), if_pos (by omega)]) | (rw [if_neg (by omega), if_neg (by omega), if_neg (by omega), if_neg (by omega), if_neg (by omega), if_pos (by omega)]) | (rw [if_neg (by omega), if_neg (by omega), if_neg (by omega), if_neg (by omega), if_neg (by omega), if_neg (by omega), if_pos (by omega)]) | (rw [if_neg (by omega), if_neg (by omega), if_neg (by omega), if_neg (by omega), if_neg (by omega), if_neg (by omega), if_neg (by omega)])] at k
            exact k
        · skip
          refine wp_go rfl rfl ?_
          refine wp_go rfl rfl ?_
          refine wp_ret rfl rfl ?_
          rw [show rkm x = 3 by unfold rkm; first | (rw [if_pos (by omega)]) | (rw [if_neg (by omega), if_pos (by omega)]) | (rw [if_neg (by omega), if_neg (by omega), if_pos (by omega)]) | (rw [if_neg (by omega), if_neg (by omega), if_neg (by omega), if_pos (by omega)]) | (rw [if_neg (by omega), if_neg (by omega), if_neg (by omega), if_neg (by omega), if_pos (by omega)]) | (rw [if_neg (by omega), if_neg (by omega), if_neg (by omega), if_neg (by omega), if_neg (by omega), if_pos (by omega)]) | (rw [if_neg (by omega), if_neg (by omega), if_neg (by omega), if_neg (by omega), if_neg (by omega), if_neg (by omega), if_pos (by omega)]) | (rw [if_neg (by omega), if_neg (by omega), if_neg (by omega), if_neg (by omega), if_neg (by omega), if_neg (by omega), if_neg (by omega)])] at k
          exact k
      · skip
        refine wp_go rfl rfl ?_
        refine wp_go rfl rfl ?_
        refine wp_ret rfl rfl ?_
        rw [show rkm x = 2 by unfold rkm; first | (rw [if_pos (by omega)]) | (rw [if_neg (by omega), if_pos (by omega)]) | (rw [if_neg (by omega), if_neg (by omega), if_pos (by omega)]) | (rw [if_neg (by omega), if_neg (by omega), if_neg (by omega), if_pos (by omega)]) | (rw [if_neg (by omega), if_neg (by omega), if_neg (by omega), if_neg (by omega), if_pos (by omega)]) | (rw [if_neg (by omega), if_neg (by omega), if_neg (by omega), if_neg (by omega), if_neg (by omega), if_pos (by omega)]) | (rw [if_neg (by omega), if_neg (by omega), if_neg (by omega), if_neg (by omega), if_neg (by omega), if_neg (by omega), if_pos (by omega)]) | (rw [if_neg (by omega), if_neg (by omega), if_neg (by omega), if_neg (by omega), if_neg (by omega), if_neg (by omega), if_neg (by omega)])] at k
        exact k
    · skip
      refine wp_go rfl rfl ?_
      refine wp_go rfl rfl ?_
      refine wp_ret rfl rfl ?_
      rw [show rkm x = 1 by unfold rkm; first | (rw [if_pos (by omega)]) | (rw [if_neg (by omega), if_pos (by omega)]) | (rw [if_neg (by omega), if_neg (by omega), if_pos (by omega)]) | (rw [if_neg (by omega), if_neg (by omega), if_neg (by omega), if_pos (by omega)]) | (rw [if_neg (by omega), if_neg (by omega), if_neg (by omega), if_neg (by omega), if_pos (by omega)]) | (rw [if_neg (by omega), if_neg (by omega), if_neg (by omega), if_neg (by omega), if_neg (by omega), if_pos (by omega)]) | (rw [if_neg (by omega), if_neg (by omega), if_neg (by omega), if_neg (by omega), if_neg (by omega), if_neg (by omega), if_pos (by omega)]) | (rw [if_neg (by omega), if_neg (by omega), if_neg (by omega), if_neg (by omega), if_neg (by omega), if_neg (by omega), if_neg (by omega)])] at k
      exact k
  · skip
    refine wp_go rfl rfl ?_
    refine wp_go rfl rfl ?_
    refine wp_ret rfl rfl ?_
    rw [show rkm x = 0 by unfold rkm; first | (rw [if_pos (by omega)]) | (rw [if_neg (by omega), if_pos (by omega)]) | (rw [if_neg (by omega), if_neg (by omega), if_pos (by omega)]) | (rw [if_neg (by omega), if_neg (by omega), if_neg (by omega), if_pos (by omega)]) | (rw [if_neg (by omega), if_neg (by omega), if_neg (by omega), if_neg (by omega), if_pos (by omega)]) | (rw [if_neg (by omega), if_neg (by omega), if_neg (by omega), if_neg (by omega), if_neg (by omega), if_pos (by omega)]) | (rw [if_neg (by omega), if_neg (by omega), if_neg (by omega), if_neg (by omega), if_neg (by omega), if_neg (by omega), if_pos (by omega)]) | (rw [if_neg (by omega), if_neg (by omega), if_neg (by omega), if_neg (by omega), if_neg (by omega), if_neg (by omega), if_neg (by omega)])] at k
    exact k
def em (T : Nat → Int) (c w : Nat) (x v : Int) : Nat → Int := hc_u (hc_u T (c + 2 * w) x) (c + 2 * w + 1) v
set_option maxRecDepth 100000 in
theorem c_emit {d : Nat} {h : hc_H} {Q : List hc_V → hc_H → Prop} {t0 w : Nat} {x v : Int} {s T : Nat → Int} (H71 : h.2.2 71 = mo s) (H74 : h.2.2 74 = ar 2720 T) (e12 : s 12 = (t0 : Int)) (e14 : s 14 = (w : Int)) (hb : t0 + 75 + 2 * w + 1 < 2720) (k : ∀ h2, h2.2.2 71 = mo (hc_u (hc_u (hc_u s 12 (t0 : Int)) 14 (w : Int)) 14 ((w + 1 : Nat) : Int)) → h2.2.2 74 = ar 2720 (em T (t0 + 75) w x v) → Fr [71, 74] h h2 → Q [] h2) : hc_wp d mX10_emit 0 [xR 71, xI x, xI v] [] h Q := by
  have H71p : h.2.2 71 = .inr (10, [xR 72, xR 73, xR 74, xR 75, xI (s 4), xI (s 5), xI (s 6), xI (s 7), xI (s 8), xI (s 9), xI (s 10), xL (s 11), xI (t0 : Int), xI (s 13), xI (w : Int), xI (s 15), xR 76, xI (s 17), xI (s 18), xI (s 19), xI (s 20), xI (s 21), xI (s 22), xR 77, xR 78, xR 79, xR 80, xR 81, xR 82, xR 83, xI (s 30), xR 84, xR 85, xR 86, xR 87, xR 88, xR 89, xR 90]) := by rw [← e12, ← e14]; exact H71
  refine wp_go rfl rfl ?_
  refine e_get rfl H71p rfl rfl ?_
  refine wp_go rfl rfl ?_
  refine e_get rfl H71p rfl rfl ?_
  refine wp_go rfl rfl ?_
  refine e_iadd rfl (by omega) ?_
  refine wp_go rfl rfl ?_
  refine wp_go rfl rfl ?_
  refine e_get rfl H71p rfl rfl ?_
  refine e_imul rfl (by omega) ?_
  refine e_iadd rfl (by omega) ?_
  refine wp_go rfl rfl ?_
  refine e_iastE (p := t0 + 75 + 2 * w) rfl H74 ⟨by omega, by omega⟩ ?_
  refine wp_go rfl rfl ?_
  refine e_get rfl H71p rfl rfl ?_
  refine wp_go rfl rfl ?_
  refine e_get rfl H71p rfl rfl ?_
  refine wp_go rfl rfl ?_
  refine e_iadd rfl (by omega) ?_
  refine wp_go rfl rfl ?_
  refine wp_go rfl rfl ?_
  refine e_get rfl H71p rfl rfl ?_
  refine e_imul rfl (by omega) ?_
  refine e_iadd rfl (by omega) ?_
  refine wp_go rfl rfl ?_
  refine e_iadd rfl (by omega) ?_
  refine wp_go rfl rfl ?_
  refine e_iastE (p := t0 + 75 + 2 * w + 1) rfl rfl ⟨by omega, by omega⟩ ?_
  refine wp_go rfl rfl ?_
  refine wp_go rfl rfl ?_
  refine e_get rfl H71p rfl rfl ?_
  refine wp_go rfl rfl ?_
  refine e_iadd rfl (by omega) ?_
  refine e_put (fs' := [xR 72, xR 73, xR 74, xR 75, xI (s 4), xI (s 5), xI (s 6), xI (s 7), xI (s 8), xI (s 9), xI (s 10), xL (s 11), xI (t0 : Int), xI (s 13), xI ((w : Int) + 1), xI (s 15), xR 76, xI (s 17), xI (s 18), xI (s 19), xI (s 20), xI (s 21), xI (s 22), xR 77, xR 78, xR 79, xR 80, xR 81, xR 82, xR 83, xI (s 30), xR 84, xR 85, xR 86, xR 87, xR 88, xR 89, xR 90]) rfl H71p rfl rfl ?_
  refine wp_ret rfl rfl ?_
  exact k _ rfl rfl ((Fr.rf.wr rfl).wr rfl |>.wr rfl)
set_option maxRecDepth 100000 in
theorem c_mpush {d : Nat} {h : hc_H} {Q : List hc_V → hc_H → Prop} {m : Nat} {x : Int} {s f : Nat → Int} (H71 : h.2.2 71 = mo s) (H76 : h.2.2 76 = ar 160 f) (e17 : s 17 = (m : Int)) (hb : m < 160) (k : ∀ h2, h2.2.2 71 = mo (hc_u s 17 ((m + 1 : Nat) : Int)) → h2.2.2 76 = ar 160 (hc_u f m x) → Fr [71, 76] h h2 → Q [] h2) : hc_wp d mX10_push 0 [xR 71, xI x] [] h Q := by
  have H71p : h.2.2 71 = .inr (10, [xR 72, xR 73, xR 74, xR 75, xI (s 4), xI (s 5), xI (s 6), xI (s 7), xI (s 8), xI (s 9), xI (s 10), xL (s 11), xI (s 12), xI (s 13), xI (s 14), xI (s 15), xR 76, xI (m : Int), xI (s 18), xI (s 19), xI (s 20), xI (s 21), xI (s 22), xR 77, xR 78, xR 79, xR 80, xR 81, xR 82, xR 83, xI (s 30), xR 84, xR 85, xR 86, xR 87, xR 88, xR 89, xR 90]) := by rw [← e17]; exact H71
  refine wp_go rfl rfl ?_
  refine e_get rfl H71p rfl rfl ?_
  refine wp_go rfl rfl ?_
  refine e_get rfl H71p rfl rfl ?_
  refine wp_go rfl rfl ?_
  refine e_iastE (p := m) rfl H76 ⟨by omega, by omega⟩ ?_
  refine wp_go rfl rfl ?_
  refine wp_go rfl rfl ?_
  refine e_get rfl H71p rfl rfl ?_
  refine wp_go rfl rfl ?_
  refine e_iadd rfl (by omega) ?_
  refine e_put (fs' := [xR 72, xR 73, xR 74, xR 75, xI (s 4), xI (s 5), xI (s 6), xI (s 7), xI (s 8), xI (s 9), xI (s 10), xL (s 11), xI (s 12), xI (s 13), xI (s 14), xI (s 15), xR 76, xI ((m : Int) + 1), xI (s 18), xI (s 19), xI (s 20), xI (s 21), xI (s 22), xR 77, xR 78, xR 79, xR 80, xR 81, xR 82, xR 83, xI (s 30), xR 84, xR 85, xR 86, xR 87, xR 88, xR 89, xR 90]) rfl H71p rfl rfl ?_
  refine wp_ret rfl rfl ?_
  exact k _ rfl rfl ((Fr.rf.wr rfl).wr rfl)
set_option maxRecDepth 100000 in
theorem l_mk {d : Nat} {h : hc_H} {Q : List hc_V → hc_H → Prop} {s f : Nat → Int} (H71 : h.2.2 71 = mo s) (H76 : h.2.2 76 = ar 160 f) : ∀ (ps : List Int) (i : Int), i = (ps.length : Int) - 1 → ps.length ≤ 160 → PL f ps → Q [xI (mki ps)] h → hc_wp d mX10_marker 7 [xR 71, xI i] [] h Q := by
  intro ps
  induction ps with
  | nil =>
    intro i hi hl hp k
    refine wp_go rfl rfl ?_
    refine e_iflt rfl (fun c => ?_) (fun c => absurd (show i < 0 by simp at hi; omega) c)
    refine wp_go rfl rfl ?_
    refine wp_ret rfl rfl ?_
    rw [show i = mki [] by rw [hi]; rfl]
    exact k
  | cons x r ih =>
    intro i hi hl hp k
    rw [List.length_cons] at hi hl
    refine wp_go rfl rfl ?_
    refine e_iflt rfl (fun c => absurd c (by omega)) (fun c => ?_)
    refine wp_go rfl rfl ?_
    refine e_get rfl H71 rfl rfl ?_
    refine wp_go rfl rfl ?_
    refine e_aldE (p := r.length) rfl H76 rfl ⟨by omega, by omega⟩ ?_
    rw [hp.1]
    refine wp_go rfl rfl ?_
    rw [mki] at k
    refine e_cge rfl (fun c => ?_) (fun c => ?_)
    · rw [if_pos c] at k
      refine wp_go rfl rfl ?_
      refine wp_ret rfl rfl ?_
      rw [show i = (r.length : Int) by omega]
      exact k
    · rw [if_neg c] at k
      refine e_inc (L' := [xR 71, xI (i + (-1))]) rfl rfl (by omega) rfl ?_
      refine wp_go rfl rfl ?_
      exact ih _ (by omega) (by omega) hp.2 k
set_option maxRecDepth 100000 in
theorem c_marker {d : Nat} {h : hc_H} {Q : List hc_V → hc_H → Prop} {ps : List Int} {s f : Nat → Int} (H71 : h.2.2 71 = mo s) (H76 : h.2.2 76 = ar 160 f) (e17 : s 17 = (ps.length : Int)) (hl : ps.length ≤ 160) (hp : PL f ps) (k : Q [xI (mki ps)] h) : hc_wp d mX10_marker 0 [xR 71, none] [] h Q := by
  have H71p : h.2.2 71 = .inr (10, [xR 72, xR 73, xR 74, xR 75, xI (s 4), xI (s 5), xI (s 6), xI (s 7), xI (s 8), xI (s 9), xI (s 10), xL (s 11), xI (s 12), xI (s 13), xI (s 14), xI (s 15), xR 76, xI (ps.length : Int), xI (s 18), xI (s 19), xI (s 20), xI (s 21), xI (s 22), xR 77, xR 78, xR 79, xR 80, xR 81, xR 82, xR 83, xI (s 30), xR 84, xR 85, xR 86, xR 87, xR 88, xR 89, xR 90]) := by rw [← e17]; exact H71
  refine wp_go rfl rfl ?_
  refine e_get rfl H71p rfl rfl ?_
  refine wp_go rfl rfl ?_
  refine e_isub rfl (by omega) ?_
  refine e_istn (L' := [xR 71, xI ((ps.length : Int) - 1)]) rfl rfl rfl ?_
  exact l_mk H71 H76 ps _ rfl hl hp k
set_option maxRecDepth 100000 in
theorem c_kop {d : Nat} {h : hc_H} {Q : List hc_V → hc_H → Prop} {ps : List Int} {s f : Nat → Int} (H71 : h.2.2 71 = mo s) (H76 : h.2.2 76 = ar 160 f) (e17 : s 17 = (ps.length : Int)) (hl : ps.length ≤ 160) (hp : PL f ps) (k : Q [xI (kop ps)] h) : hc_wp (d + 1) mX10_kindOpen 0 [xR 71, xI 0, none] [] h Q := by
  refine wp_go rfl rfl ?_
  refine wp_cv rfl rfl rfl H71 rfl rfl rfl ?_
  refine c_marker H71 H76 e17 hl hp ?_
  have hmb := mki_bd ps
  refine e_istn (L' := [xR 71, xI 0, xI (mki ps)]) rfl rfl rfl ?_
  refine wp_go rfl rfl ?_
  refine e_iflt rfl (fun c6 => ?_) (fun c6 => ?_)
  · skip
    refine wp_go rfl rfl ?_
    refine wp_go rfl rfl ?_
    refine wp_go rfl rfl ?_
    refine wp_ret rfl rfl ?_
    rw [show kop ps = 40 from if_pos c6] at k
    exact k
  · skip
    refine wp_go rfl rfl ?_
    refine e_get rfl H71 rfl rfl ?_
    refine wp_go rfl rfl ?_
    refine e_aldE (p := (mki ps).toNat) rfl H76 rfl ⟨by omega, by omega⟩ ?_
    refine wp_go rfl rfl ?_
    refine wp_ret rfl rfl ?_
    rw [show kop ps = mkk ps from if_neg c6, ← (PL_mk ps hp (by omega)).1] at k
    exact k
set_option maxRecDepth 100000 in
theorem l_cq {d : Nat} {h : hc_H} {Q : List hc_V → hc_H → Prop} {s f : Nat → Int} (H71 : h.2.2 71 = mo s) (H76 : h.2.2 76 = ar 160 f) : ∀ (ps : List Int) (i : Int), i = (ps.length : Int) - 1 → ps.length ≤ 160 → PL f ps → (cmq ps = true → Q [xI 1] h) → (cmq ps = false → Q [xI 0] h) → hc_wp (d + 1) mX10_isCompared 7 [xR 71, xI i] [] h Q := by
  intro ps
  induction ps with
  | nil =>
    intro i hi hl hp kt kf
    have hi2 : i < 0 := by simp at hi; omega
    refine wp_go rfl rfl ?_
    refine e_iflt rfl (fun c => ?_) (fun c => absurd hi2 c)
    refine wp_go rfl rfl ?_
    refine e_iflt rfl (fun c => ?_) (fun c => absurd hi2 c)
    refine wp_go rfl rfl ?_
    exact wp_ret rfl rfl (kf rfl)
  | cons x r ih =>
    intro i hi hl hp kt kf
    rw [List.length_cons] at hi hl
    refine wp_go rfl rfl ?_
    refine e_iflt rfl (fun c => absurd c (by omega)) (fun c => ?_)
    refine wp_go rfl rfl ?_
    refine e_get rfl H71 rfl rfl ?_
    refine wp_go rfl rfl ?_
    refine e_aldE (p := r.length) rfl H76 rfl ⟨by omega, by omega⟩ ?_
    rw [hp.1]
    refine wp_call rfl rfl rfl rfl ?_
    refine c_rank ?_
    refine wp_go rfl rfl ?_
    rw [cmq] at kt kf
    refine e_cle rfl (fun c => ?_) (fun c => ?_)
    · rw [if_neg (by omega)] at kt kf
      refine wp_go rfl rfl ?_
      refine e_iflt rfl (fun c => absurd c (by omega)) (fun c2 => ?_)
      refine wp_go rfl rfl ?_
      refine e_get rfl H71 rfl rfl ?_
      refine wp_go rfl rfl ?_
      refine e_aldE (p := r.length) rfl H76 rfl ⟨by omega, by omega⟩ ?_
      rw [hp.1]
      refine wp_call rfl rfl rfl rfl ?_
      refine c_rank ?_
      refine wp_go rfl rfl ?_
      refine e_cne rfl (fun c => ?_) (fun c => ?_)
      · refine wp_go rfl rfl ?_
        exact wp_ret rfl rfl (kf (decide_eq_false c))
      · refine wp_go rfl rfl ?_
        refine wp_go rfl rfl ?_
        exact wp_ret rfl rfl (kt (decide_eq_true c))
    · rw [if_pos (by omega)] at kt kf
      refine e_inc (L' := [xR 71, xI (i + (-1))]) rfl rfl (by omega) rfl ?_
      refine wp_go rfl rfl ?_
      exact ih _ (by omega) (by omega) hp.2 kt kf
set_option maxRecDepth 100000 in
theorem c_cmq {d : Nat} {h : hc_H} {Q : List hc_V → hc_H → Prop} {ps : List Int} {s f : Nat → Int} (H71 : h.2.2 71 = mo s) (H76 : h.2.2 76 = ar 160 f) (e17 : s 17 = (ps.length : Int)) (hl : ps.length ≤ 160) (hp : PL f ps) (kt : cmq ps = true → Q [xI 1] h) (kf : cmq ps = false → Q [xI 0] h) : hc_wp (d + 1) mX10_isCompared 0 [xR 71, none] [] h Q := by
  have H71p : h.2.2 71 = .inr (10, [xR 72, xR 73, xR 74, xR 75, xI (s 4), xI (s 5), xI (s 6), xI (s 7), xI (s 8), xI (s 9), xI (s 10), xL (s 11), xI (s 12), xI (s 13), xI (s 14), xI (s 15), xR 76, xI (ps.length : Int), xI (s 18), xI (s 19), xI (s 20), xI (s 21), xI (s 22), xR 77, xR 78, xR 79, xR 80, xR 81, xR 82, xR 83, xI (s 30), xR 84, xR 85, xR 86, xR 87, xR 88, xR 89, xR 90]) := by rw [← e17]; exact H71
  refine wp_go rfl rfl ?_
  refine e_get rfl H71p rfl rfl ?_
  refine wp_go rfl rfl ?_
  refine e_isub rfl (by omega) ?_
  refine e_istn (L' := [xR 71, xI ((ps.length : Int) - 1)]) rfl rfl rfl ?_
  exact l_cq H71 H76 ps _ rfl hl hp kt kf
set_option maxRecDepth 100000 in
theorem c_aah {d : Nat} {h : hc_H} {Q : List hc_V → hc_H → Prop} {ps : List Int} {s f : Nat → Int} (H71 : h.2.2 71 = mo s) (H76 : h.2.2 76 = ar 160 f) (e17 : s 17 = (ps.length : Int)) (hl : ps.length ≤ 160) (hp : PL f ps) (kt : aah ps = true → Q [xI 1] h) (kf : aah ps = false → Q [xI 0] h) : hc_wp (d + 2) mX10_isAskAhead 0 [xR 71, xI 0] [] h Q := by
  match ps, e17, hl, hp, kt, kf with
  | [], e17, hl, hp, kt, kf =>
    refine wp_go rfl rfl ?_
    refine wp_go rfl rfl ?_
    refine wp_cv rfl rfl rfl H71 rfl rfl rfl ?_
    refine c_kop (ps := []) H71 H76 e17 hl hp ?_
    refine wp_go rfl rfl ?_
    refine e_cne rfl (fun c => ?_) (fun c => absurd (show (40 : Int) = 41 from c) (by decide))
    refine wp_go rfl rfl ?_
    exact wp_ret rfl rfl (kf rfl)
  | x :: r, e17, hl, hp, kt, kf =>
    rw [List.length_cons] at hl
    have H71p : h.2.2 71 = .inr (10, [xR 72, xR 73, xR 74, xR 75, xI (s 4), xI (s 5), xI (s 6), xI (s 7), xI (s 8), xI (s 9), xI (s 10), xL (s 11), xI (s 12), xI (s 13), xI (s 14), xI (s 15), xR 76, xI ((x :: r : List Int).length : Int), xI (s 18), xI (s 19), xI (s 20), xI (s 21), xI (s 22), xR 77, xR 78, xR 79, xR 80, xR 81, xR 82, xR 83, xI (s 30), xR 84, xR 85, xR 86, xR 87, xR 88, xR 89, xR 90]) := by rw [← e17]; exact H71
    refine wp_go rfl rfl ?_
    refine wp_go rfl rfl ?_
    refine wp_cv rfl rfl rfl H71p rfl rfl rfl ?_
    refine c_kop (ps := x :: r) H71 H76 e17 (by rw [List.length_cons]; exact hl) hp ?_
    refine wp_go rfl rfl ?_
    refine e_cne rfl (fun c7 => ?_) (fun c7 => ?_)
    · skip
      refine wp_go rfl rfl ?_
      refine wp_ret rfl rfl ?_
      exact kf (by unfold aah; simp; omega)
    · skip
      refine wp_go rfl rfl ?_
      refine e_get rfl H71p rfl rfl ?_
      refine e_ifeq rfl (fun c14 => absurd c14 (by rw [List.length_cons]; omega)) (fun c14 => ?_)
      refine wp_go rfl rfl ?_
      refine e_get rfl H71p rfl rfl ?_
      refine wp_go rfl rfl ?_
      refine e_get rfl H71p rfl rfl ?_
      refine wp_go rfl rfl ?_
      refine e_isub rfl (by rw [List.length_cons]; omega) ?_
      refine e_aldE (p := r.length) rfl H76 rfl ⟨by rw [List.length_cons]; omega, by omega⟩ ?_
      rw [hp.1]
      refine wp_go rfl rfl ?_
      refine e_ceq rfl (fun c30 => ?_) (fun c30 => ?_)
      · skip
        refine wp_go rfl rfl ?_
        refine wp_go rfl rfl ?_
        refine wp_ret rfl rfl ?_
        exact kt (by unfold aah; simp; omega)
      · skip
        refine wp_go rfl rfl ?_
        refine e_get rfl H71p rfl rfl ?_
        refine wp_go rfl rfl ?_
        refine e_get rfl H71p rfl rfl ?_
        refine wp_go rfl rfl ?_
        refine e_isub rfl (by rw [List.length_cons]; omega) ?_
        refine e_aldE (p := r.length) rfl H76 rfl ⟨by rw [List.length_cons]; omega, by omega⟩ ?_
        rw [hp.1]
        refine wp_call rfl rfl rfl rfl ?_
        refine c_rank ?_
        refine wp_go rfl rfl ?_
        refine wp_go rfl rfl ?_
        refine wp_call rfl rfl rfl rfl ?_
        refine c_isIn  (fun q49 => ?_) (fun q49 => ?_)
        · skip
          refine wp_go rfl rfl ?_
          refine wp_go rfl rfl ?_
          refine wp_go rfl rfl ?_
          refine wp_ret rfl rfl ?_
          exact kt (by unfold aah; simp; omega)
        · skip
          refine wp_go rfl rfl ?_
          refine wp_go rfl rfl ?_
          refine wp_ret rfl rfl ?_
          exact kf (by unfold aah; simp; omega)
theorem em_at {T : Nat → Int} {c w : Nat} {x v : Int} : em T c w x v (c + 2 * w) = x ∧ em T c w x v (c + 2 * w + 1) = v := ⟨(hu_n (by omega)).trans hu_s, hu_s⟩
theorem em_ne {T : Nat → Int} {c w a : Nat} {x v : Int} (h : a < c + 2 * w ∨ c + 2 * (w + 1) ≤ a) : em T c w x v a = T a := (hu_n (by omega)).trans (hu_n (by omega))
theorem me4 {s : Nat → Int} {t0 : Int} {m a b : Int} (e : s 12 = t0) : ME [14, 17, 18] s (hc_u (hc_u (hc_u (hc_u s 17 m) 12 t0) 14 a) 14 b) := by
  have h1 : ME [14, 17, 18] s (hc_u (hc_u s 17 m) 12 t0) := by
    intro k hk
    by_cases c : k = 12
    · rw [c, hu_s, e]
    · rw [hu_n c]
      exact (ME.rf (l := [14, 17, 18]) (s := s)).u (a := 17) rfl k hk
  exact (h1.u rfl).u rfl
theorem me5 {s : Nat → Int} {t0 : Int} {m a b c : Int} (e : s 12 = t0) : ME [14, 17, 18] s (hc_u (hc_u (hc_u (hc_u (hc_u s 17 m) 12 t0) 14 a) 14 b) 18 c) := (me4 e).u rfl
set_option maxRecDepth 100000 in
theorem c_settle5 {d : Nat} {Q : List hc_V → hc_H → Prop} {t0 : Nat} {y : Int} {f : Nat → Int} {rest : List Int} (hrest : ∀ z r, rest = z :: r → rkm z < y) : ∀ (ops : List Int) (w : Nat) (h : hc_H) (s T : Nat → Int), h.2.2 71 = mo s → h.2.2 74 = ar 2720 T → h.2.2 76 = ar 160 f → s 12 = (t0 : Int) → s 14 = (w : Int) → s 17 = ((ops ++ rest).length : Int) → (-100000 ≤ s 18 - ((ops.length : Nat) : Int) ∧ s 18 ≤ 100000) → (ops ++ rest).length ≤ 160 → PL f (ops ++ rest) → t0 + 75 + 2 * (w + ops.length) ≤ 2720 → (∀ z, z ∈ ops → y ≤ rkm z) → (∀ h2 s2 T2, h2.2.2 71 = mo s2 → h2.2.2 74 = ar 2720 T2 → s2 17 = (rest.length : Int) → s2 14 = ((w + ops.length : Nat) : Int) → s2 18 = s 18 - cnt ops → ME [14, 17, 18] s s2 → SAM T T2 (t0 + 75) w ops.length → CDS T2 (t0 + 75) w ops → Fr [71, 74] h h2 → Q [] h2) → hc_wp (d + 1) mX10_settle 0 [xR 71, xI y] [] h Q := by
  intro ops
  induction ops with
  | nil =>
    intro w h s T H71 H74 H76 e12 e14 e17 h18 hl hp hb hall k
    rw [List.nil_append] at e17 hl hp
    have hfin : Q [] h := k h s T H71 H74 e17 (by rw [e14]; rfl) (by simp [cnt]) ME.rf (fun a _ => rfl) trivial Fr.rf
    match rest, hrest, e17, hl, hp with
    | [], _, e17, _, _ =>
      refine wp_go rfl rfl ?_
      refine e_get rfl H71 rfl rfl ?_
      refine e_ifle rfl (fun c => ?_) (fun c => absurd (show s 17 ≤ 0 by rw [e17]; simp) c)
      exact wp_ret rfl rfl hfin
    | x :: r, hrest, e17, hl, hp =>
      have hx := hrest x r rfl
      rw [List.length_cons] at e17 hl
      refine wp_go rfl rfl ?_
      refine e_get rfl H71 rfl rfl ?_
      refine e_ifle rfl (fun c => absurd c (by omega)) (fun c => ?_)
      refine wp_go rfl rfl ?_
      refine e_get rfl H71 rfl rfl ?_
      refine wp_go rfl rfl ?_
      refine e_get rfl H71 rfl rfl ?_
      refine wp_go rfl rfl ?_
      refine e_isub rfl (by omega) ?_
      refine e_aldE (p := r.length) rfl H76 rfl ⟨by omega, by omega⟩ ?_
      rw [hp.1]
      refine wp_call rfl rfl rfl rfl ?_
      refine c_rank ?_
      refine wp_go rfl rfl ?_
      refine e_clt rfl (fun c => ?_) (fun c => absurd hx c)
      exact wp_ret rfl rfl hfin
  | cons x ops ih =>
    intro w h s T H71 H74 H76 e12 e14 e17 h18 hl hp hb hall k
    rw [List.cons_append] at e17 hl hp
    rw [List.length_cons] at e17 hl h18 hb
    have hx := hall x (List.mem_cons_self)
    refine wp_go rfl rfl ?_
    refine e_get rfl H71 rfl rfl ?_
    refine e_ifle rfl (fun c => absurd c (by omega)) (fun c => ?_)
    refine wp_go rfl rfl ?_
    refine e_get rfl H71 rfl rfl ?_
    refine wp_go rfl rfl ?_
    refine e_get rfl H71 rfl rfl ?_
    refine wp_go rfl rfl ?_
    refine e_isub rfl (by omega) ?_
    refine e_aldE (p := (ops ++ rest).length) rfl H76 rfl ⟨by omega, by omega⟩ ?_
    rw [hp.1]
    refine wp_call rfl rfl rfl rfl ?_
    refine c_rank ?_
    refine wp_go rfl rfl ?_
    refine e_clt rfl (fun c => absurd hx (by omega)) (fun c => ?_)
    refine wp_go rfl rfl ?_
    refine wp_go rfl rfl ?_
    refine e_get rfl H71 rfl rfl ?_
    refine wp_go rfl rfl ?_
    refine e_isub rfl (by omega) ?_
    refine e_put rfl H71 rfl rfl ?_
    obtain ⟨m, hm⟩ : ∃ m : Nat, m = (ops ++ rest).length := ⟨_, rfl⟩
    have e17b : s 17 - 1 = (m : Int) := by omega
    rw [e17b]
    have A71 : (hc_wr h 71 (mo (hc_u s 17 (m : Int)))).2.2 71 = mo (hc_u s 17 (m : Int)) := rfl
    refine wp_go rfl rfl ?_
    refine wp_go rfl rfl ?_
    refine e_get rfl A71 rfl rfl ?_
    refine wp_go rfl rfl ?_
    refine e_get (v := xI (m : Int)) rfl A71 rfl rfl ?_
    refine e_aldE (p := m) rfl H76 rfl ⟨rfl, by omega⟩ ?_
    rw [show f m = x by rw [hm]; exact hp.1]
    refine wp_go rfl rfl ?_
    refine wp_cv rfl rfl rfl A71 rfl rfl rfl ?_
    refine c_emit A71 H74 e12 e14 (by omega) (fun h1 B71 B74 BF => ?_)
    have B76 : h1.2.2 76 = ar 160 f := (BF.2.2 76 rfl).trans H76
    refine wp_go rfl rfl ?_
    refine e_get rfl B71 rfl rfl ?_
    refine wp_go rfl rfl ?_
    refine e_get (v := xI (m : Int)) rfl B71 rfl rfl ?_
    refine e_aldE (p := m) rfl B76 rfl ⟨rfl, by omega⟩ ?_
    rw [show f m = x by rw [hm]; exact hp.1]
    refine wp_go rfl rfl ?_
    have hgo : ∀ (h3 : hc_H) (s3 : Nat → Int), h3.2.2 71 = mo s3 → ME [14, 17, 18] s s3 → s3 14 = ((w + 1 : Nat) : Int) → s3 17 = (m : Int) → s3 18 = s 18 - (if x = 2 ∨ x = 20 then 1 else 0) → Fr [71] h1 h3 → hc_wp (d + 1) mX10_settle 0 [xR 71, xI y] [] h3 Q := by
      intro h3 s3 C1 C2 C3 C4 C5 C6
      refine ih (w + 1) h3 s3 (em T (t0 + 75) w x 0) C1 ((C6.2.2 74 rfl).trans B74) ((C6.2.2 76 rfl).trans B76) ((C2 12 rfl).trans e12) C3 (by rw [C4, hm]) (by split at C5 <;> omega) (by omega) hp.2 (by omega) (fun z hz => hall z (List.mem_cons_of_mem x hz)) (fun h2 s2 T2 D1 D2 D3 D4 D5 D6 D7 D8 D9 => ?_)
      refine k h2 s2 T2 D1 D2 D3 ?_ ?_ (C2.tr D6 (fun _ z => z)) ?_ ?_ ?_
      · rw [D4, List.length_cons]
        omega
      · rw [D5, C5, cnt]
        omega
      · intro a ha
        rw [List.length_cons] at ha
        exact (D7 a (by omega)).trans (em_ne (by omega))
      · exact ⟨(D7 _ (by omega)).trans em_at.1, (D7 _ (by omega)).trans em_at.2, D8⟩
      · exact ((Fr.tr (l2 := [71, 74]) (Fr.rf.wr rfl) BF (fun _ z => z)).tr (Fr.mono C6 (nin_sub rfl)) (fun _ z => z)).tr D9 (fun _ z => z)
    refine e_ceq rfl (fun c2 => ?_) (fun c2 => ?_)
    · refine wp_go rfl rfl ?_
      refine wp_go rfl rfl ?_
      refine e_get (v := xI (s 18)) rfl B71 rfl rfl ?_
      refine wp_go rfl rfl ?_
      refine e_isub rfl (by omega) ?_
      refine e_put rfl B71 rfl rfl ?_
      refine wp_go rfl rfl ?_
      exact hgo _ (hc_u (hc_u (hc_u (hc_u (hc_u s 17 (m : Int)) 12 (t0 : Int)) 14 (w : Int)) 14 ((w + 1 : Nat) : Int)) 18 (s 18 - 1)) rfl (me5 e12) rfl rfl (by rw [if_pos (Or.inl c2)]; rfl) (Fr.rf.wr rfl)
    · refine wp_go rfl rfl ?_
      refine e_get rfl B71 rfl rfl ?_
      refine wp_go rfl rfl ?_
      refine e_get (v := xI (m : Int)) rfl B71 rfl rfl ?_
      refine e_aldE (p := m) rfl B76 rfl ⟨rfl, by omega⟩ ?_
      rw [show f m = x by rw [hm]; exact hp.1]
      refine wp_go rfl rfl ?_
      refine e_cne rfl (fun c3 => ?_) (fun c3 => ?_)
      · exact hgo _ _ B71 (me4 e12) rfl rfl (by rw [if_neg (by omega)]; show s 18 = s 18 - 0; omega) Fr.rf
      · refine wp_go rfl rfl ?_
        refine wp_go rfl rfl ?_
        refine e_get (v := xI (s 18)) rfl B71 rfl rfl ?_
        refine wp_go rfl rfl ?_
        refine e_isub rfl (by omega) ?_
        refine e_put rfl B71 rfl rfl ?_
        refine wp_go rfl rfl ?_
        exact hgo _ (hc_u (hc_u (hc_u (hc_u (hc_u s 17 (m : Int)) 12 (t0 : Int)) 14 (w : Int)) 14 ((w + 1 : Nat) : Int)) 18 (s 18 - 1)) rfl (me5 e12) rfl rfl (by rw [if_pos (Or.inr c3)]; rfl) (Fr.rf.wr rfl)
