/-! the reference: the loop of a sum's reading -/
abbrev LH (d : Nat) (l : hc_V) (h : hc_H) (Q : List hc_V → hc_H → Prop) : Prop := hc_wp (d + 6) mX10_parsed 12 [xR 71, xI 0, xI 1, l] [] h Q
section LHS
variable {d : Nat} {h : hc_H} {Q : List hc_V → hc_H → Prop} {l : hc_V} {s : Nat → Int}
theorem lh_beh (H71 : h.2.2 71 = mo s) (e19 : s 19 = 1) (k : hc_wp (d + 5) mX10_behindOne 0 [xR 71, xI 0, none, none, none] [] h (fun v h' => hc_wp (d + 6) mX10_parsed 28 [xR 71, xI 0, xI 1, l] (v ++ []) h' Q)) : LH d l h Q := by
  refine wp_go rfl rfl ?_
  refine wp_go rfl rfl ?_
  refine wp_go rfl rfl ?_
  refine e_get rfl H71 rfl rfl ?_
  refine e_ifeq rfl (fun c => absurd (e19.symm.trans c) (by decide)) (fun c => ?_)
  refine wp_go rfl rfl ?_
  refine wp_go rfl rfl ?_
  exact wp_cv rfl rfl rfl H71 rfl rfl rfl k
theorem lh_beg (H71 : h.2.2 71 = mo s) (e19 : s 19 = 0) (k : hc_wp (d + 5) mX10_beginOne 0 [xR 71, xI 0, none] [] h (fun v h' => hc_wp (d + 6) mX10_parsed 37 [xR 71, xI 0, xI 1, l] (v ++ []) h' Q)) : LH d l h Q := by
  refine wp_go rfl rfl ?_
  refine wp_go rfl rfl ?_
  refine wp_go rfl rfl ?_
  refine e_get rfl H71 rfl rfl ?_
  refine e_ifeq rfl (fun c => ?_) (fun c => absurd e19 c)
  refine wp_go rfl rfl ?_
  refine wp_go rfl rfl ?_
  exact wp_cv rfl rfl rfl H71 rfl rfl rfl k
theorem lh_one (k : LH d l h Q) : hc_wp (d + 6) mX10_parsed 28 [xR 71, xI 0, xI 1, l] ([xI 1] ++ []) h Q := by
  refine e_istn (L' := [xR 71, xI 0, xI 1, l]) rfl rfl rfl ?_
  exact wp_go rfl rfl k
theorem lh_z (k : ∀ l, LH d l h Q) : hc_wp (d + 6) mX10_parsed 37 [xR 71, xI 0, xI 1, l] ([xI 0] ++ []) h Q := by
  refine e_istn (L' := [xR 71, xI 0, xI 1, xI 0]) rfl rfl rfl ?_
  refine wp_go rfl rfl ?_
  refine wp_go rfl rfl ?_
  exact wp_go rfl rfl (k _)
theorem lh_f {fl : Int} (hf : fl ≠ 0) (k : Q [xI fl] h) : hc_wp (d + 6) mX10_parsed 37 [xR 71, xI 0, xI 1, l] ([xI fl] ++ []) h Q := by
  refine e_istn (L' := [xR 71, xI 0, xI 1, xI fl]) rfl rfl rfl ?_
  refine wp_go rfl rfl ?_
  refine e_ifeq rfl (fun c => absurd c hf) (fun c => ?_)
  refine wp_go rfl rfl ?_
  exact wp_ret rfl rfl k
theorem lh_e1 {ps : List Int} {f : Nat → Int} (H71 : h.2.2 71 = mo s) (H76 : h.2.2 76 = ar 160 f) (e17 : s 17 = (ps.length : Int)) (hl : ps.length ≤ 160) (hp : PL f ps) (hm : 0 ≤ mki ps) (k : Q [xI 1] h) : hc_wp (d + 6) mX10_parsed 28 [xR 71, xI 0, xI 1, l] ([xI 0] ++ []) h Q := by
  refine e_istn (L' := [xR 71, xI 0, xI 0, l]) rfl rfl rfl ?_
  refine wp_go rfl rfl ?_
  refine wp_go rfl rfl ?_
  refine wp_go rfl rfl ?_
  refine wp_go rfl rfl ?_
  refine wp_cv rfl rfl rfl H71 rfl rfl rfl ?_
  refine c_marker H71 H76 e17 hl hp ?_
  refine e_ifge rfl (fun c => ?_) (fun c => absurd hm c)
  refine wp_go rfl rfl ?_
  exact wp_ret rfl rfl k
theorem lh_e0 {ps : List Int} {f T : Nat → Int} {t0 w : Nat} (H71 : h.2.2 71 = mo s) (H74 : h.2.2 74 = ar 2720 T) (H76 : h.2.2 76 = ar 160 f) (e12 : s 12 = (t0 : Int)) (e14 : s 14 = (w : Int)) (e17 : s 17 = (ps.length : Int)) (h18 : -100000 ≤ s 18 - (ps.length : Int) ∧ s 18 ≤ 100000) (hl : ps.length ≤ 160) (hp : PL f ps) (hm : mki ps < 0) (hb : t0 + 75 + 2 * (w + ps.length) ≤ 2720) (hall : ∀ z, z ∈ ps → 1 ≤ rkm z) (k : ∀ h2 s2 T2, h2.2.2 71 = mo s2 → h2.2.2 74 = ar 2720 T2 → s2 14 = ((w + ps.length : Nat) : Int) → s2 18 = s 18 - cnt ps → ME [14, 17, 18] s s2 → SAM T T2 (t0 + 75) w ps.length → CDS T2 (t0 + 75) w ps → Fr [71, 74] h h2 → Q [xI 0] h2) : hc_wp (d + 6) mX10_parsed 28 [xR 71, xI 0, xI 1, l] ([xI 0] ++ []) h Q := by
  refine e_istn (L' := [xR 71, xI 0, xI 0, l]) rfl rfl rfl ?_
  refine wp_go rfl rfl ?_
  refine wp_go rfl rfl ?_
  refine wp_go rfl rfl ?_
  refine wp_go rfl rfl ?_
  refine wp_cv rfl rfl rfl H71 rfl rfl rfl ?_
  refine c_marker H71 H76 e17 hl hp ?_
  refine e_ifge rfl (fun c => absurd hm (by omega)) (fun c => ?_)
  refine wp_go rfl rfl ?_
  refine wp_go rfl rfl ?_
  refine wp_go rfl rfl ?_
  refine wp_go rfl rfl ?_
  refine wp_cv rfl rfl rfl H71 rfl rfl rfl ?_
  refine c_settle5 (d := d + 4) (rest := []) (fun z r e => by cases e) ps w h s T H71 H74 H76 e12 e14 (by rw [List.append_nil]; exact e17) h18 (by rw [List.append_nil]; exact hl) (by rw [List.append_nil]; exact hp) hb hall (fun h2 s2 T2 D1 D2 D3 D4 D5 D6 D7 D8 D9 => ?_)
  refine wp_go rfl rfl ?_
  exact wp_ret rfl rfl (k h2 s2 T2 D1 D2 D4 D5 D6 D7 D8 D9)
end LHS
def HD (p : List Int) (y : Int) : Prop := ∀ z r, p = z :: r → rkm z < y
def hdm (m : Nat) : Int := match m with
  | 0 => 7
  | 1 => 6
  | 2 => 5
  | 3 => 6
  | 4 => 5
  | 5 => 1
  | 6 => 2
  | 7 => 4
  | 8 => 1
  | _ => 2
def rlo (m : Nat) : Int := match m with
  | 0 => 8
  | 1 => 6
  | 2 => 5
  | 3 => 6
  | 4 => 5
  | 5 => 1
  | 6 => 2
  | 7 => 3
  | 8 => 1
  | _ => 2
def OPS (m o : Nat) (ops : List Int) : Prop := (∀ z, z ∈ ops → rlo m ≤ rkm z ∧ rkm z ≤ 6) ∧ ops.length ≤ mx m + (8 - o) ∧ (bom m = true → cmq ops = true)
def FE (m : Nat) (K : Int) : Prop := match m with
  | 0 => True
  | 1 => ¬ (48 ≤ K ∧ K ≤ 49)
  | 2 => ¬ (46 ≤ K ∧ K ≤ 49)
  | 3 => ¬ (48 ≤ K ∧ K ≤ 49)
  | 4 => ¬ (46 ≤ K ∧ K ≤ 49)
  | 5 => ¬ (46 ≤ K ∧ K ≤ 49) ∧ K ≠ 21 ∧ K ≠ 20
  | 6 => ¬ (46 ≤ K ∧ K ≤ 49) ∧ K ≠ 21
  | 7 => ¬ (46 ≤ K ∧ K ≤ 49)
  | 8 => ¬ (46 ≤ K ∧ K ≤ 49) ∧ K ≠ 21 ∧ K ≠ 20
  | _ => ¬ (46 ≤ K ∧ K ≤ 49) ∧ K ≠ 21
def FS (m : Nat) (K : Int) : Prop := match m with
  | 4 => ¬ (48 ≤ K ∧ K ≤ 49)
  | 8 => ¬ (46 ≤ K ∧ K ≤ 49) ∧ K ≠ 21
  | 9 => ¬ (46 ≤ K ∧ K ≤ 49)
  | _ => True
def TSM (T T2 : Nat → Int) (t0 w0 : Nat) : Prop := ∀ a, a < t0 + 75 + 2 * w0 ∨ t0 + 680 ≤ a → T2 a = T a
theorem TSM.tr {T T1 T2 : Nat → Int} {t0 w0 w1 : Nat} (H1 : TSM T T1 t0 w0) (H2 : TSM T1 T2 t0 w1) (h : w0 ≤ w1) : TSM T T2 t0 w0 := fun a ha => (H2 a (by omega)).trans (H1 a ha)
theorem SAM.ts {T T2 : Nat → Int} {t0 w w0 len : Nat} (H : SAM T T2 (t0 + 75) w len) (h : w0 ≤ w) (h2 : w + len ≤ 302) : TSM T T2 t0 w0 := fun a ha => H a (by omega)
theorem MST.cq {B : Nat → Int} {n : Nat} {h : hc_H} {s T f : Nat → Int} {t0 : Nat} {lw : Int} {i w : Nat} {ps : List Int} {q q2 wh : Int} (M : MST B n h s T f t0 lw i w ps q wh) (e : q = q2) : MST B n h s T f t0 lw i w ps q2 wh := e ▸ M
theorem MST.cp {B : Nat → Int} {n : Nat} {h : hc_H} {s T f : Nat → Int} {t0 : Nat} {lw : Int} {i w : Nat} {ps ps2 : List Int} {q wh : Int} (M : MST B n h s T f t0 lw i w ps q wh) (e : ps = ps2) : MST B n h s T f t0 lw i w ps2 q wh := e ▸ M
theorem apx {a p : List Int} {x : Int} : a ++ x :: p = (a ++ [x]) ++ p := by simp
theorem cnt_app : ∀ a b : List Int, cnt (a ++ b) = cnt a + cnt b
  | [], b => by simp [cnt]
  | x :: a, b => by
    rw [List.cons_append, cnt, cnt, cnt_app a b]
    omega
theorem cmq_app {b : List Int} : ∀ a : List Int, cmq a = true → cmq (a ++ b) = true
  | [], h => by cases h
  | x :: a, h => by
    rw [List.cons_append, cmq]
    rw [cmq] at h
    split
    · rename_i c
      rw [if_pos c] at h
      exact cmq_app a h
    · rename_i c
      rw [if_neg c] at h
      exact h
theorem cmq_hi {b : List Int} : ∀ a : List Int, (∀ z, z ∈ a → 5 ≤ rkm z) → cmq (a ++ b) = cmq b
  | [], _ => rfl
  | x :: a, h => by
    have := h x List.mem_cons_self
    rw [List.cons_append, cmq, if_pos (by omega)]
    exact cmq_hi a (fun z hz => h z (List.mem_cons_of_mem x hz))
theorem mk_app {p : List Int} : ∀ a : List Int, (∀ z, z ∈ a → z < 40) → mkk (a ++ p) = mkk p ∧ mki (a ++ p) = mki p
  | [], _ => ⟨rfl, rfl⟩
  | x :: a, h => by
    have hx := h x List.mem_cons_self
    rw [List.cons_append, mkk, mki, if_neg (by omega), if_neg (by omega)]
    exact mk_app a (fun z hz => h z (List.mem_cons_of_mem x hz))
theorem mk_neg : ∀ p : List Int, (mki p < 0 → mkk p = -1) ∧ (0 ≤ mki p → 40 ≤ mkk p)
  | [] => ⟨fun _ => rfl, fun h => absurd h (by decide)⟩
  | x :: p => by
    rw [mki, mkk]
    split
    · exact ⟨fun h => absurd h (by omega), fun _ => by assumption⟩
    · exact mk_neg p
theorem kop_41 {a p : List Int} (h : mkk p = 41) (ha : ∀ z, z ∈ a → z < 40) : kop (a ++ p) = 41 := by
  have h1 := mk_app (p := p) a ha
  have h2 := mk_neg p
  unfold kop
  rw [h1.1, h1.2, if_neg, h]
  intro z
  have := h2.1 z
  omega
theorem mem_app {a b : List Int} {z : Int} (h : z ∈ a ++ b) : z ∈ a ∨ z ∈ b := List.mem_append.1 h
theorem HD.mono {p : List Int} {a b : Int} (h : HD p a) (hab : a ≤ b) : HD p b := fun z r e => Int.lt_of_lt_of_le (h z r e) hab
theorem HD_c {x y : Int} {p : List Int} (h : rkm x < y) : HD (x :: p) y := by
  intro z r e
  cases e
  exact h
theorem kcd_rk {K : Int} (hK : (40 ≤ K ∧ K ≤ 49) ∨ K = 20 ∨ K = 21) : rkm (kcd K) = (if 48 ≤ K then 6 else if 46 ≤ K then 5 else if 40 ≤ K then 4 else if K = 21 then 2 else 1) ∧ kcd K ≠ 2 ∧ kcd K ≠ 20 ∧ 0 ≤ kcd K ∧ kcd K < 40 := by
  have hc : K = 46 ∨ K = 47 ∨ K = 48 ∨ K = 49 ∨ K = 40 ∨ K = 41 ∨ K = 42 ∨ K = 43 ∨ K = 44 ∨ K = 45 ∨ K = 20 ∨ K = 21 := by omega
  rcases hc with rfl | rfl | rfl | rfl | rfl | rfl | rfl | rfl | rfl | rfl | rfl | rfl <;> decide
theorem cnt_k {K : Int} {a : List Int} (hK : (40 ≤ K ∧ K ≤ 49) ∨ K = 20 ∨ K = 21) : cnt (a ++ [kcd K]) = cnt a := by
  have h := kcd_rk hK
  rw [cnt_app, cnt, cnt, if_neg (by omega)]
  omega
