/-! the reference: what its codes work out to -/
def j4 (lw : Int) : Nat := if lw = 10 then 3 else 5
def j5 (lw : Int) : Nat := if lw = 10 then 4 else 6
abbrev evS : Type := List Int × List Int
def est (nm : Nat → Int) (x v : Int) (st : evS) : Option evS :=
  if x = 0 then (if 0 ≤ v ∧ v ≤ 9999 then some (v :: st.1, st.2) else none) else if x = 1 then (if 0 ≤ v ∧ v ≤ 6 then some (nm v.toNat :: st.1, st.2) else none)
  else if x = 2 then (match st.1 with
    | a :: r => some ((-a) :: r, st.2)
    | [] => none)
  else if 3 ≤ x ∧ x ≤ 6 then (match st.1 with
    | b :: a :: r => some (clp (o2 (x + 43) a b) :: r, st.2)
    | _ => none)
  else if 10 ≤ x ∧ x ≤ 15 then (match st.1 with
    | b :: a :: r => some (r, clp (o2 (x + 30) a b) :: st.2)
    | _ => none)
  else if x = 20 then (match st.2 with
    | a :: r => some (st.1, (1 - a) :: r)
    | [] => none)
  else if x = 23 then (match st.1, st.2 with
    | b :: a :: r, q :: t => some ((if q = 0 then b else a) :: r, t)
    | _, _ => none)
  else if x = 21 ∨ x = 22 then (match st.2 with
    | b :: a :: r => some (st.1, clp (o2 (if x = 21 then 21 else 20) a b) :: r)
    | _ => none)
  else none
def evr (T : Nat → Int) (c : Nat) (nm : Nat → Int) : Nat → Nat → evS → Option evS
  | 0, _, s => some s
  | k + 1, a, s => match est nm (T (c + 2 * a)) (T (c + 2 * a + 1)) s with
    | some s2 => evr T c nm k (a + 1) s2
    | none => none
theorem evr_eq {T T2 : Nat → Int} {c : Nat} {nm : Nat → Int} : ∀ (k a : Nat) (s : evS), (∀ x, c + 2 * a ≤ x → x < c + 2 * (a + k) → T2 x = T x) → evr T2 c nm k a s = evr T c nm k a s
  | 0, _, _, _ => rfl
  | k + 1, a, s, h => by
    rw [evr, evr, h _ (by omega) (by omega), h _ (by omega) (by omega)]
    cases est nm (T (c + 2 * a)) (T (c + 2 * a + 1)) s with
    | none => rfl
    | some s2 => exact evr_eq k (a + 1) s2 (fun x h1 h2 => h x (by omega) (by omega))
theorem evr_app {T : Nat → Int} {c : Nat} {nm : Nat → Int} : ∀ (k l a : Nat) (s s2 : evS), evr T c nm k a s = some s2 → evr T c nm (k + l) a s = evr T c nm l (a + k) s2
  | 0, l, a, s, s2, h => by
    rw [evr] at h
    cases h
    rw [Nat.zero_add]
    rfl
  | k + 1, l, a, s, s2, h => by
    rw [show k + 1 + l = (k + l) + 1 by omega, evr]
    rw [evr] at h
    cases q : est nm (T (c + 2 * a)) (T (c + 2 * a + 1)) s with
    | none => rw [q] at h; cases h
    | some s3 =>
      rw [q] at h
      have := evr_app k l (a + 1) s3 s2 h
      rw [show a + (k + 1) = a + 1 + k by omega]
      exact this
def res (bo : Bool) (x : Int) (s : evS) : evS := bif bo then (s.1, x :: s.2) else (x :: s.1, s.2)
def vlw (lw : Int) (V : ef) (nm : Nat → Int) : Int := V (nm 0) (nm 1) (nm 2) (nm (j4 lw)) (nm (j5 lw))
def PC (lw : Int) (T : Nat → Int) (c a b : Nat) (V : ef) (bo : Bool) : Prop := a ≤ b ∧ ∀ (nm : Nat → Int) (s : evS), evr T c nm (b - a) a s = some (res bo (vlw lw V nm) s)
def PEN (lw : Int) (T : Nat → Int) (c a w : Nat) (ops : List Int) (V : ef) (bo : Bool) : Prop := ∀ T2 : Nat → Int, (∀ x, c + 2 * a ≤ x → x < c + 2 * w → T2 x = T x) → CDS T2 c w ops → PC lw T2 c a (w + ops.length) V bo
theorem PC.eq {lw : Int} {T T2 : Nat → Int} {c a b : Nat} {V : ef} {bo : Bool} (H : PC lw T c a b V bo) (h : ∀ x, c + 2 * a ≤ x → x < c + 2 * b → T2 x = T x) : PC lw T2 c a b V bo := by
  refine ⟨H.1, fun nm s => ?_⟩
  rw [evr_eq (T := T) (T2 := T2) (b - a) a s (fun x h1 h2 => h x h1 (by have := H.1; omega))]
  exact H.2 nm s
theorem PC.pen {lw : Int} {T : Nat → Int} {c a b : Nat} {V : ef} {bo : Bool} (H : PC lw T c a b V bo) : PEN lw T c a b [] V bo := fun T2 h _ => H.eq h
theorem PEN.eq {lw : Int} {T T2 : Nat → Int} {c a w : Nat} {ops : List Int} {V : ef} {bo : Bool} (H : PEN lw T c a w ops V bo) (h : ∀ x, c + 2 * a ≤ x → x < c + 2 * w → T2 x = T x) : PEN lw T2 c a w ops V bo := fun T3 h3 hc => H T3 (fun x h1 h2 => (h3 x h1 h2).trans (h x h1 h2)) hc
/-- the pending ones are written -/
theorem PEN.pc {lw : Int} {T T2 : Nat → Int} {c a w : Nat} {ops : List Int} {V : ef} {bo : Bool} (H : PEN lw T c a w ops V bo) (hs : SAM T T2 c w ops.length) (hc : CDS T2 c w ops) : PC lw T2 c a (w + ops.length) V bo := H T2 (fun x h1 h2 => hs x (Or.inl h2)) hc
theorem PC_step {lw : Int} {T : Nat → Int} {c a b : Nat} {V W : ef} {bo bo2 : Bool} (H : PC lw T c a b V bo) (h : ∀ (nm : Nat → Int) (s : evS), est nm (T (c + 2 * b)) (T (c + 2 * b + 1)) (res bo (vlw lw V nm) s) = some (res bo2 (vlw lw W nm) s)) : PC lw T c a (b + 1) W bo2 := by
  refine ⟨by have := H.1; omega, fun nm s => ?_⟩
  have hb := H.1
  rw [show b + 1 - a = (b - a) + 1 by omega, evr_app (b - a) 1 a s _ (H.2 nm s), show a + (b - a) = b by omega, evr, h nm s]
  rfl
theorem PC_num {lw : Int} {T : Nat → Int} {c w : Nat} {N : Int} (h1 : T (c + 2 * w) = 0) (h2 : T (c + 2 * w + 1) = N) (hN : 0 ≤ N ∧ N ≤ 9999) : PC lw T c w (w + 1) (cnv N) false := by
  refine ⟨by omega, fun nm s => ?_⟩
  rw [show w + 1 - w = 0 + 1 by omega, evr, h1, h2, show est nm 0 N s = some (N :: s.1, s.2) by unfold est; rw [if_pos rfl, if_pos hN]]
  rfl
theorem PC_name {lw : Int} {T : Nat → Int} {c w : Nat} {K : Int} (h1 : T (c + 2 * w) = 1) (h2 : T (c + 2 * w + 1) = K - 23) (hK : 23 ≤ K ∧ K ≤ 29) (hl : lw = 10 ∨ lw = 11) (ho : nok lw K = true) : PC lw T c w (w + 1) (nmv K) false := by
  refine ⟨by omega, fun nm s => ?_⟩
  rw [show w + 1 - w = 0 + 1 by omega, evr, h1, h2]
  have e : nm (K - 23).toNat = vlw lw (nmv K) nm := by
    have hc : K = 23 ∨ K = 24 ∨ K = 25 ∨ K = 26 ∨ K = 27 ∨ K = 28 ∨ K = 29 := by omega
    rcases hl with rfl | rfl <;> rcases hc with rfl | rfl | rfl | rfl | rfl | rfl | rfl <;> first | rfl | (exact absurd ho (by decide))
  rw [show est nm 1 (K - 23) s = some (nm (K - 23).toNat :: s.1, s.2) by unfold est; rw [if_neg (by decide), if_pos rfl, if_pos (by omega)]]
  rw [e]
  rfl
def nit : Nat → ef → ef
  | 0, v => v
  | k + 1, v => nit k (ngv v)
theorem PC_neg {lw : Int} {T : Nat → Int} {c a : Nat} : ∀ (ms : List Int) (b : Nat) (V : ef), PC lw T c a b V false → (∀ z, z ∈ ms → z = 2) → CDS T c b ms → PC lw T c a (b + ms.length) (nit ms.length V) false
  | [], b, V, H, _, _ => H
  | x :: r, b, V, H, hm, hc => by
    have h1 : PC lw T c a (b + 1) (ngv V) false := by
      refine PC_step H (fun nm s => ?_)
      rw [hc.1, hc.2.1, hm x List.mem_cons_self]
      rfl
    have := PC_neg r (b + 1) (ngv V) h1 (fun z hz => hm z (List.mem_cons_of_mem x hz)) hc.2.2
    rw [List.length_cons, show b + (r.length + 1) = b + 1 + r.length by omega]
    exact this
theorem CDS_app {T : Nat → Int} {c : Nat} : ∀ (a : List Int) (w : Nat) (b : List Int), CDS T c w (a ++ b) → CDS T c w a ∧ CDS T c (w + a.length) b
  | [], w, b, h => ⟨trivial, h⟩
  | x :: a, w, b, h => by
    have := CDS_app a (w + 1) b h.2.2
    rw [List.length_cons, show w + (a.length + 1) = w + 1 + a.length by omega]
    exact ⟨⟨h.1, h.2.1, this.1⟩, this.2⟩
/-- the signs between, by their kinds -/
def kcd (K : Int) : Int := if 46 ≤ K ∧ K ≤ 49 then K - 43 else if 40 ≤ K ∧ K ≤ 45 then K - 30 else if K = 21 then 21 else 22
theorem est_ar {nm : Nat → Int} {K x y : Int} {s : evS} {v : Int} (hK : 46 ≤ K ∧ K ≤ 49) : est nm (kcd K) v (y :: x :: s.1, s.2) = some (clp (o2 K x y) :: s.1, s.2) := by
  have hc : K = 46 ∨ K = 47 ∨ K = 48 ∨ K = 49 := by omega
  rcases hc with rfl | rfl | rfl | rfl <;> rfl
theorem est_cm {nm : Nat → Int} {K x y : Int} {s : evS} {v : Int} (hK : 40 ≤ K ∧ K ≤ 45) : est nm (kcd K) v (y :: x :: s.1, s.2) = some (s.1, clp (o2 K x y) :: s.2) := by
  have hc : K = 40 ∨ K = 41 ∨ K = 42 ∨ K = 43 ∨ K = 44 ∨ K = 45 := by omega
  rcases hc with rfl | rfl | rfl | rfl | rfl | rfl <;> rfl
theorem est_bo {nm : Nat → Int} {K x y : Int} {s : evS} {v : Int} (hK : K = 20 ∨ K = 21) : est nm (kcd K) v (s.1, y :: x :: s.2) = some (s.1, clp (o2 K x y) :: s.2) := by
  rcases hK with rfl | rfl <;> rfl
def bkd (K : Int) : Bool := decide (K = 20 ∨ K = 21)
def bkr (K : Int) : Bool := decide (K = 20 ∨ K = 21 ∨ (40 ≤ K ∧ K ≤ 45))
theorem PEN_bin {lw : Int} {T : Nat → Int} {c a b w : Nat} {ops : List Int} {V U : ef} {K : Int} (H1 : PC lw T c a b V (bkd K)) (H2 : PEN lw T c b w ops U (bkd K)) (hbw : b ≤ w) (hK : (40 ≤ K ∧ K ≤ 49) ∨ K = 20 ∨ K = 21) : PEN lw T c a w (ops ++ [kcd K]) (op2 K V U) (bkr K) := by
  intro T2 h hc
  obtain ⟨hc1, hc2⟩ := CDS_app ops w [kcd K] hc
  have hab := H1.1
  have G1 : PC lw T2 c a b V (bkd K) := H1.eq (fun x h1 h2 => h x h1 (by omega))
  have G2 : PC lw T2 c b (w + ops.length) U (bkd K) := H2 T2 (fun x h1 h2 => h x (by omega) h2) hc1
  rw [List.length_append, show w + (ops.length + [kcd K].length) = w + ops.length + 1 from rfl]
  have hb2 := G2.1
  refine ⟨by omega, fun nm s => ?_⟩
  rw [show w + ops.length + 1 - a = (b - a) + ((w + ops.length - b) + 1) by omega, evr_app (b - a) _ a s _ (G1.2 nm s), show a + (b - a) = b by omega, evr_app (w + ops.length - b) 1 b _ _ (G2.2 nm _), show b + (w + ops.length - b) = w + ops.length by omega, evr, hc2.1, hc2.2.1]
  by_cases k1 : 46 ≤ K ∧ K ≤ 49
  · rw [show bkd K = false from decide_eq_false (by omega), show bkr K = false from decide_eq_false (by omega)]
    show (match est nm (kcd K) 0 (vlw lw U nm :: vlw lw V nm :: s.1, s.2) with | some s2 => evr T2 c nm 0 _ s2 | none => none) = _
    rw [est_ar k1]
    rfl
  · by_cases k2 : 40 ≤ K ∧ K ≤ 45
    · rw [show bkd K = false from decide_eq_false (by omega), show bkr K = true from decide_eq_true (by omega)]
      show (match est nm (kcd K) 0 (vlw lw U nm :: vlw lw V nm :: s.1, s.2) with | some s2 => evr T2 c nm 0 _ s2 | none => none) = _
      rw [est_cm k2]
      rfl
    · rw [show bkd K = true from decide_eq_true (by omega), show bkr K = true from decide_eq_true (by omega)]
      show (match est nm (kcd K) 0 (s.1, vlw lw U nm :: vlw lw V nm :: s.2) with | some s2 => evr T2 c nm 0 _ s2 | none => none) = _
      rw [est_bo (by omega)]
      rfl
theorem PEN_not {lw : Int} {T : Nat → Int} {c a w : Nat} {ops : List Int} {V : ef} (H : PEN lw T c a w ops V true) : PEN lw T c a w (ops ++ [20]) (ntv V) true := by
  intro T2 h hc
  obtain ⟨hc1, hc2⟩ := CDS_app ops w [20] hc
  rw [List.length_append, show w + (ops.length + [(20 : Int)].length) = w + ops.length + 1 from rfl]
  refine PC_step (H T2 h hc1) (fun nm s => ?_)
  rw [hc2.1, hc2.2.1]
  rfl
theorem PC_sel {lw : Int} {T : Nat → Int} {c a b e g : Nat} {Z X Y : ef} (H0 : PC lw T c a b Z true) (H1 : PC lw T c b e X false) (H2 : PC lw T c e g Y false) (h1 : T (c + 2 * g) = 23) (h2 : T (c + 2 * g + 1) = 0) : PC lw T c a (g + 1) (slv Z X Y) false := by
  have a0 := H0.1
  have a1 := H1.1
  have a2 := H2.1
  refine ⟨by omega, fun nm s => ?_⟩
  rw [show g + 1 - a = (b - a) + ((e - b) + ((g - e) + 1)) by omega, evr_app (b - a) _ a s _ (H0.2 nm s), show a + (b - a) = b by omega, evr_app (e - b) _ b _ _ (H1.2 nm _), show b + (e - b) = e by omega, evr_app (g - e) 1 e _ _ (H2.2 nm _), show e + (g - e) = g by omega, evr, h1, h2]
  rfl
