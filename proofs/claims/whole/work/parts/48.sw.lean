/-! switches over a number that isn't known -/
def tsck : List Int → Int → Int → List Int → Bool
  | [], _, _, _ => true
  | a :: l, lo, df, vs => (decide (a = df) || vs.contains lo) && tsck l (lo + 1) df vs
theorem tsck_sp : ∀ (os : List Int) (lo df : Int) (vs : List Int) (x : Int), tsck os lo df vs = true → (∀ v ∈ vs, x ≠ v) → lo ≤ x → x < lo + (os.length : Int) → hc_gt os (x - lo).toNat = some df
  | [], lo, df, vs, x, _, _, h1, h2 => by simp at h2; omega
  | a :: l, lo, df, vs, x, hc, hv, h1, h2 => by
    rw [tsck, Bool.and_eq_true, Bool.or_eq_true] at hc
    by_cases c : x = lo
    · subst c
      rw [show (x - x).toNat = 0 by omega]
      rcases hc.1 with z | z
      · rw [of_decide_eq_true z]; rfl
      · exact absurd rfl (hv x (List.contains_iff_mem.1 z))
    · rw [show (x - lo).toNat = (x - (lo + 1)).toNat + 1 by omega]
      exact tsck_sp l (lo + 1) df vs x hc.2 hv (by omega) (by simp at h2; omega)
section SW
variable {d : Nat} {mi : hc_M} {pc nx a b w u t : Nat} {L st : List hc_V} {h : hc_H} {Q : List hc_V → hc_H → Prop}
theorem e_tswd {x df lo hi : Int} {offs : Array Int} (vs : List Int) (hc : hc_gt (hc_c mi) pc = some (nx, .tableswitch df lo hi offs, a, b, w, u)) (hck : (tsck offs.toList lo df vs && decide (hi < lo + (offs.toList.length : Int)) && decide (0 ≤ (pc : Int) + df)) = true) (ht : ((pc : Int) + df).toNat = t) (hv : ∀ v ∈ vs, x ≠ v) (k : hc_wp d mi t L st h Q) : hc_wp d mi pc L (xI x :: st) h Q := by
  rw [Bool.and_eq_true, Bool.and_eq_true] at hck
  have h0 := of_decide_eq_true hck.2
  have h1 := of_decide_eq_true hck.1.2
  by_cases hx : x < lo ∨ hi < x
  · exact wp_go hc (by simp only [hc_kind, hc_tsw, if_pos hx, hc_jmp, if_pos h0, hc_go, ht]) k
  · exact wp_go hc (by simp only [hc_kind, hc_tsw, if_neg hx, tsck_sp offs.toList lo df vs x hck.1.1 hv (by omega) (by omega), hc_jmp, if_pos h0, hc_go, ht]) k
theorem e_lswd {x df : Int} {ps : Array (Int × Int)} (hc : hc_gt (hc_c mi) pc = some (nx, .lookupswitch df ps, a, b, w, u)) (hx : Op.lookupswitch.offset ps.toList df x = df) (h0 : 0 ≤ (pc : Int) + df) (ht : ((pc : Int) + df).toNat = t) (k : hc_wp d mi t L st h Q) : hc_wp d mi pc L (xI x :: st) h Q :=
  wp_go hc (by simp only [hc_kind, hc_lsw, hx, hc_jmp, if_pos h0, hc_go, ht]) k
theorem e_aldE {r n t : Nat} {f : Nat → Int} {i : Int} {p : Nat} (hc : hc_gt (hc_c mi) pc = some (nx, .iaload, a, b, w, u)) (hh : h.2.2 r = .inl (t, n, .inl f)) (ht : (Nat.beq t 0 || Nat.beq t 9) = true) (hi : i = (p : Int) ∧ p < n) (k : hc_wp d mi nx L (xI (f p) :: st) h Q) : hc_wp d mi pc L (xI i :: xR r :: st) h Q := by
  obtain ⟨rfl, h2⟩ := hi
  exact e_ald hc hh ht (by omega) k
theorem e_laldE {r n : Nat} {f : Nat → Int} {i : Int} {p : Nat} (hc : hc_gt (hc_c mi) pc = some (nx, .laload, a, b, w, u)) (hh : h.2.2 r = .inl (1, n, .inl f)) (hi : i = (p : Int) ∧ p < n) (k : hc_wp d mi nx L (xL (f p) :: st) h Q) : hc_wp d mi pc L (xI i :: xR r :: st) h Q := by
  obtain ⟨rfl, h2⟩ := hi
  exact e_lald hc hh (by omega) k
theorem e_baldE {r n : Nat} {f : Nat → Int} {i : Int} {p : Nat} (hc : hc_gt (hc_c mi) pc = some (nx, .baload, a, b, w, u)) (hh : h.2.2 r = .inl (2, n, .inl f)) (hi : i = (p : Int) ∧ p < n) (k : hc_wp d mi nx L (xI (f p) :: st) h Q) : hc_wp d mi pc L (xI i :: xR r :: st) h Q := by
  obtain ⟨rfl, h2⟩ := hi
  exact e_bald hc hh (by omega) k
theorem e_aaldE {r n : Nat} {f : Nat → Option Nat} {i : Int} {p : Nat} (hc : hc_gt (hc_c mi) pc = some (nx, .aaload, a, b, w, u)) (hh : h.2.2 r = .inl (3, n, .inr f)) (hi : i = (p : Int) ∧ p < n) (k : hc_wp d mi nx L (xQ (f p) :: st) h Q) : hc_wp d mi pc L (xI i :: xR r :: st) h Q := by
  obtain ⟨rfl, h2⟩ := hi
  exact e_aald hc hh (by omega) k
theorem e_iastE {r n : Nat} {f : Nat → Int} {i x : Int} {p : Nat} (hc : hc_gt (hc_c mi) pc = some (nx, .iastore, a, b, w, u)) (hh : h.2.2 r = .inl (0, n, .inl f)) (hi : i = (p : Int) ∧ p < n) (k : hc_wp d mi nx L st (hc_wr h r (.inl (0, n, .inl (hc_u f p x)))) Q) : hc_wp d mi pc L (xI x :: xI i :: xR r :: st) h Q := by
  obtain ⟨rfl, h2⟩ := hi
  exact e_iast hc hh (by omega) k
theorem e_lastE {r n : Nat} {f : Nat → Int} {i x : Int} {p : Nat} (hc : hc_gt (hc_c mi) pc = some (nx, .lastore, a, b, w, u)) (hh : h.2.2 r = .inl (1, n, .inl f)) (hi : i = (p : Int) ∧ p < n) (k : hc_wp d mi nx L st (hc_wr h r (.inl (1, n, .inl (hc_u f p x)))) Q) : hc_wp d mi pc L (xL x :: xI i :: xR r :: st) h Q := by
  obtain ⟨rfl, h2⟩ := hi
  exact e_last hc hh (by omega) k
theorem e_bastE {r n : Nat} {f : Nat → Int} {i x : Int} {p : Nat} (hc : hc_gt (hc_c mi) pc = some (nx, .bastore, a, b, w, u)) (hh : h.2.2 r = .inl (2, n, .inl f)) (hi : i = (p : Int) ∧ p < n) (hx : x = 0 ∨ x = 1) (k : hc_wp d mi nx L st (hc_wr h r (.inl (2, n, .inl (hc_u f p x)))) Q) : hc_wp d mi pc L (xI x :: xI i :: xR r :: st) h Q := by
  obtain ⟨rfl, h2⟩ := hi
  exact e_bast hc hh ⟨by omega, hx⟩ k
theorem e_aastE {r n : Nat} {f : Nat → Option Nat} {i : Int} {q : Option Nat} {p : Nat} (hc : hc_gt (hc_c mi) pc = some (nx, .aastore, a, b, w, u)) (hh : h.2.2 r = .inl (3, n, .inr f)) (hT : hc_isT h q = true) (hi : i = (p : Int) ∧ p < n) (k : hc_wp d mi nx L st (hc_wr h r (.inl (3, n, .inr (hc_u f p q)))) Q) : hc_wp d mi pc L (xQ q :: xI i :: xR r :: st) h Q := by
  obtain ⟨rfl, h2⟩ := hi
  exact e_aast hc hh hT (by omega) k
end SW
theorem nt {b : Bool} (h : b = false) : ¬ b = true := by rw [h]; decide
