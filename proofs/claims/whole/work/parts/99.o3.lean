/-! netting, pure: counts of parts -/
theorem clr_bit' : ∀ s : Fin 256, ∀ p : Fin 8, ∀ i : Fin 8, Nat.testBit (clr s.1 p.1) i.1 = (Nat.testBit s.1 i.1 && !decide (i.1 = p.1)) := by decide +kernel
theorem clr_bit {s p i : Nat} (hs : s < 256) (hp : p < 8) : Nat.testBit (clr s p) i = (Nat.testBit s i && !decide (i = p)) := by
  by_cases hi : i < 8
  · exact clr_bit' ⟨s, hs⟩ ⟨p, hp⟩ ⟨i, hi⟩
  · rw [bit_hi (Nat.lt_of_le_of_lt (clr_lt hs hp).1 hs) (by omega), bit_hi hs (by omega)]
    rfl
theorem smb_dif {bl : Nat → Int} {S T : Nat} (h : dif T S = 0) : ∀ n : Nat, smb bl (dif S T) n = smb bl S n - smb bl T n
  | 0 => by simp [smb]
  | n + 1 => by
    have ih := smb_dif (bl := bl) h n
    have hb := (dif_0.1 h) n
    rw [smb, smb, smb, ih, dif_bit]
    cases e : Nat.testBit T n with
    | true =>
      rw [hb e]
      simp <;> omega
    | false => cases Nat.testBit S n <;> simp <;> omega
theorem smb_clr {bl : Nat → Int} {S p : Nat} (hS : S < 256) (hp : p < 8) (hb : Nat.testBit S p = true) : ∀ n : Nat, smb bl (clr S p) n = smb bl S n - (if p < n then bl p else 0)
  | 0 => by simp [smb]
  | n + 1 => by
    have ih := smb_clr (bl := bl) hS hp hb n
    rw [smb, smb, ih, clr_bit hS hp]
    by_cases c : n = p
    · rw [if_neg (show ¬ p < n by omega), if_pos (show p < n + 1 by omega), c, hb]
      simp <;> omega
    · rw [show decide (n = p) = false from decide_eq_false c]
      by_cases q : p < n
      · rw [if_pos q, if_pos (show p < n + 1 by omega)]
        cases Nat.testBit S n <;> simp <;> omega
      · rw [if_neg q, if_neg (show ¬ p < n + 1 by omega)]
        cases Nat.testBit S n <;> simp <;> omega
theorem smb_0 {bl : Nat → Int} : ∀ n : Nat, smb bl 0 n = 0
  | 0 => rfl
  | n + 1 => by
    rw [smb, smb_0 n, Nat.zero_testBit]
    rfl
theorem csf_max {bl sm mo : Nat → Int} {s : Nat} : ∀ n : Nat, 0 ≤ (csf bl sm mo s n).2 ∧ (∀ p, p < n → Nat.testBit s p = true → mo (clr s p) ≤ (csf bl sm mo s n).2) ∧ ((csf bl sm mo s n).2 = 0 ∨ ∃ p, p < n ∧ Nat.testBit s p = true ∧ (csf bl sm mo s n).2 = mo (clr s p))
  | 0 => ⟨Int.le_refl _, fun p hp => absurd hp (by omega), Or.inl rfl⟩
  | n + 1 => by
    have ih := csf_max (bl := bl) (sm := sm) (mo := mo) (s := s) n
    rw [csf]
    by_cases c : Nat.testBit s n = true
    · rw [if_pos c]
      dsimp only
      by_cases q : (csf bl sm mo s n).2 < mo (clr s n)
      · rw [if_pos q]
        refine ⟨by omega, fun p hp hb => ?_, Or.inr ⟨n, by omega, c, rfl⟩⟩
        by_cases z : p = n
        · rw [z]
          exact Int.le_refl _
        · have := ih.2.1 p (by omega) hb
          omega
      · rw [if_neg q]
        refine ⟨ih.1, fun p hp hb => ?_, ?_⟩
        · by_cases z : p = n
          · rw [z]
            omega
          · exact ih.2.1 p (by omega) hb
        · cases ih.2.2 with
          | inl z => exact Or.inl z
          | inr z =>
            obtain ⟨p, h1, h2, h3⟩ := z
            exact Or.inr ⟨p, by omega, h2, h3⟩
    · rw [if_neg c]
      refine ⟨ih.1, fun p hp hb => ?_, ?_⟩
      · by_cases z : p = n
        · rw [z] at hb
          exact absurd hb c
        · exact ih.2.1 p (by omega) hb
      · cases ih.2.2 with
        | inl z => exact Or.inl z
        | inr z =>
          obtain ⟨p, h1, h2, h3⟩ := z
          exact Or.inr ⟨p, by omega, h2, h3⟩
theorem csf_sum {bl sm mo : Nat → Int} {s : Nat} {V : Int} (hV : ∀ p, p < 8 → Nat.testBit s p = true → sm (clr s p) + bl p = V) : ∀ n : Nat, n ≤ 8 → (∃ p, p < n ∧ Nat.testBit s p = true) → (csf bl sm mo s n).1 = V
  | 0, _, h => by
    obtain ⟨p, hp, _⟩ := h
    exact absurd hp (by omega)
  | n + 1, hn, h => by
    rw [csf]
    by_cases c : Nat.testBit s n = true
    · rw [if_pos c]
      exact hV n (by omega) c
    · rw [if_neg c]
      obtain ⟨p, hp, hb⟩ := h
      refine csf_sum hV n (by omega) ⟨p, ?_, hb⟩
      by_cases z : p = n
      · rw [z] at hb
        exact absurd hb c
      · omega
def CSP (bl C : Nat → Int) (t : Nat) : Prop := ∃ X : Int, 0 ≤ X ∧ C t = X + (if smb bl t 8 = 0 then 1 else 0) ∧ (∀ p, p < 8 → Nat.testBit t p = true → C (clr t p) ≤ X) ∧ (X = 0 ∨ ∃ p, p < 8 ∧ Nat.testBit t p = true ∧ X = C (clr t p))
def CSQ (bl C : Nat → Int) (op : Nat) : Prop := C 0 = 0 ∧ ∀ t, 1 ≤ t → t ≤ op → CSP bl C t
theorem CSP_cg {bl C D : Nat → Int} {t : Nat} (ht : t < 256) (h : ∀ q, q ≤ t → D q = C q) (H : CSP bl C t) : CSP bl D t := by
  obtain ⟨X, h0, h1, h2, h3⟩ := H
  refine ⟨X, h0, by rw [h t (Nat.le_refl _)]; exact h1, fun p hp hb => ?_, ?_⟩
  · rw [h _ (clr_lt ht hp).1]
    exact h2 p hp hb
  · cases h3 with
    | inl z => exact Or.inl z
    | inr z =>
      obtain ⟨p, hp, hb, hx⟩ := z
      exact Or.inr ⟨p, hp, hb, by rw [h _ (clr_lt ht hp).1]; exact hx⟩
theorem cit_ok {bl sm mo : Nat → Int} : ∀ n : Nat, n < 256 → (∀ t, t ≤ n → (cit bl sm mo n).1 t = smb bl t 8) ∧ CSQ bl (cit bl sm mo n).2 n
  | 0, _ => by
    refine ⟨fun t ht => ?_, ?_, fun t h1 h2 => absurd h1 (by omega)⟩
    · rw [show t = 0 by omega, smb_0]
      show hc_u sm 0 0 0 = 0
      exact hu_s
    · show hc_u mo 0 0 0 = 0
      exact hu_s
  | n + 1, hn => by
    obtain ⟨ih1, ih2, ih3⟩ := cit_ok (bl := bl) (sm := sm) (mo := mo) n (by omega)
    have hz := tz_at (s := n + 1) (by omega) hn
    have hsum : (csf bl (cit bl sm mo n).1 (cit bl sm mo n).2 (n + 1) 8).1 = smb bl (n + 1) 8 := by
      refine csf_sum (fun p hp hb => ?_) 8 (Nat.le_refl _) ⟨_, hz.1, hz.2⟩
      have hl := (clr_lt hn hp).2.1 hb
      rw [ih1 _ (by omega), smb_clr hn hp hb, if_pos hp]
      omega
    have hmx := csf_max (bl := bl) (sm := (cit bl sm mo n).1) (mo := (cit bl sm mo n).2) (s := n + 1) 8
    have hne : ∀ q, q ≤ n → (cit bl sm mo (n + 1)).2 q = (cit bl sm mo n).2 q := fun q hq => by
      rw [cit]
      exact hu_n (by omega)
    refine ⟨fun t ht => ?_, ?_, fun t h1 h2 => ?_⟩
    · by_cases z : t = n + 1
      · rw [z, ← hsum, cit]
        exact hu_s
      · rw [← ih1 t (by omega), cit]
        exact hu_n z
    · rw [hne 0 (by omega)]
      exact ih2
    · by_cases z : t = n + 1
      · rw [z]
        refine ⟨_, hmx.1, ?_, fun p hp hb => ?_, ?_⟩
        · rw [cit]
          dsimp only
          rw [hu_s, hsum]
          split
          · rfl
          · exact (Int.add_zero _).symm
        · rw [hne _ (by have := (clr_lt hn hp).2.1 hb; omega)]
          exact hmx.2.1 p hp hb
        · cases hmx.2.2 with
          | inl y => exact Or.inl y
          | inr y =>
            obtain ⟨p, hp, hb, hx⟩ := y
            exact Or.inr ⟨p, hp, hb, by rw [hne _ (by have := (clr_lt hn hp).2.1 hb; omega)]; exact hx⟩
      · exact CSP_cg (by omega) (fun q hq => hne q (by omega)) (ih3 t h1 (by omega))
theorem C_pos {bl C : Nat → Int} {op t : Nat} (H : CSQ bl C op) (ht : t ≤ op) : 0 ≤ C t := by
  by_cases z : t = 0
  · rw [z, H.1]
    exact Int.le_refl _
  · obtain ⟨X, h0, h1, _⟩ := H.2 t (by omega) ht
    rw [h1]
    split <;> omega
theorem C_mono1 {bl C : Nat → Int} {op t p : Nat} (H : CSQ bl C op) (ht : t ≤ op) (hp : p < 8) (hb : Nat.testBit t p = true) : C (clr t p) + (if smb bl t 8 = 0 then 1 else 0) ≤ C t := by
  obtain ⟨X, h0, h1, h2, _⟩ := H.2 t (bit_pos hb) ht
  have := h2 p hp hb
  rw [h1]
  omega
theorem dif_eq {S T : Nat} (h1 : dif S T = 0) (h2 : dif T S = 0) : T = S := by
  apply Nat.eq_of_testBit_eq
  intro i
  have a := dif_0.1 h1 i
  have b := dif_0.1 h2 i
  cases e : Nat.testBit T i with
  | true => exact (b e).symm
  | false =>
    cases e2 : Nat.testBit S i with
    | false => rfl
    | true => rw [a e2] at e; exact nomatch e
theorem dif_self {S : Nat} : dif S S = 0 := dif_0.2 (fun _ h => h)
theorem sub_clr {S T p : Nat} (hS : S < 256) (hp : p < 8) (h : dif T S = 0) (hb : Nat.testBit T p = false) : dif T (clr S p) = 0 := by
  refine dif_0.2 (fun i hi => ?_)
  rw [clr_bit hS hp, dif_0.1 h i hi, decide_eq_false (fun z => by rw [z, hb] at hi; exact nomatch hi)]
  rfl
theorem sub_tr {S T U : Nat} (h1 : dif S T = 0) (h2 : dif T U = 0) : dif S U = 0 := dif_0.2 (fun i hi => dif_0.1 h2 i (dif_0.1 h1 i hi))
theorem dif_sub {S T : Nat} : dif (dif S T) S = 0 := dif_0.2 (fun i hi => by rw [dif_bit, Bool.and_eq_true] at hi; exact hi.1)
theorem clr_sub {S p : Nat} (hS : S < 256) (hp : p < 8) : dif (clr S p) S = 0 := dif_0.2 (fun i hi => by rw [clr_bit hS hp, Bool.and_eq_true] at hi; exact hi.1)
theorem sub_le {S T : Nat} (h : dif T S = 0) : T ≤ S := by
  have e : T &&& S = T := by
    apply Nat.eq_of_testBit_eq
    intro i
    rw [Nat.testBit_and]
    cases q : Nat.testBit T i with
    | true => rw [dif_0.1 h i q]; rfl
    | false => rfl
  have h2 : T &&& S ≤ S := Nat.and_le_right
  rw [e] at h2
  exact h2
theorem dif_in {S T p : Nat} (h1 : Nat.testBit S p = true) (h2 : Nat.testBit T p = false) : Nat.testBit (dif S T) p = true := by rw [dif_bit, h1, h2]; rfl
theorem C_mono {bl C : Nat → Int} {op : Nat} (hop : op < 256) (H : CSQ bl C op) : ∀ (g S T : Nat), S < g → S ≤ op → dif T S = 0 → C T ≤ C S
  | 0, S, T, hg, _, _ => absurd hg (by omega)
  | g + 1, S, T, hg, hS, hT => by
    by_cases z : dif S T = 0
    · rw [dif_eq z hT]
      exact Int.le_refl _
    · have hz := tz_at (s := dif S T) (by omega) (dif_lt (by omega))
      have hb := hz.2
      rw [dif_bit, Bool.and_eq_true] at hb
      have hb2 : Nat.testBit T (tz (dif S T)) = false := by
        cases e : Nat.testBit T (tz (dif S T)) with
        | false => rfl
        | true => rw [e] at hb; exact absurd hb.2 (by decide)
      have hl := (clr_lt (show S < 256 by omega) hz.1).2.1 hb.1
      have h1 := C_mono hop H g (clr S (tz (dif S T))) T (by omega) (by omega) (sub_clr (by omega) hz.1 hT hb2)
      have h2 := C_mono1 H hS hz.1 hb.1
      split at h2 <;> omega
theorem C_zer {bl C : Nat → Int} {op : Nat} (hop : op < 256) (H : CSQ bl C op) : ∀ (g T : Nat), T < g → T ≤ op → ∃ Z, dif Z T = 0 ∧ smb bl Z 8 = 0 ∧ C Z = C T
  | 0, T, hg, _ => absurd hg (by omega)
  | g + 1, T, hg, hT => by
    by_cases z : smb bl T 8 = 0
    · exact ⟨T, dif_self, z, rfl⟩
    · have h1 : 1 ≤ T := by
        by_cases y : T = 0
        · rw [y, smb_0] at z
          exact absurd rfl z
        · omega
      obtain ⟨X, h0, hx, _, h3⟩ := H.2 T h1 hT
      rw [if_neg z, Int.add_zero] at hx
      cases h3 with
      | inl y => exact ⟨0, dif_0.2 (fun i hi => by rw [Nat.zero_testBit] at hi; exact nomatch hi), smb_0 8, by rw [H.1, hx, y]⟩
      | inr y =>
        obtain ⟨p, hp, hb, hy⟩ := y
        have hl := (clr_lt (show T < 256 by omega) hp).2.1 hb
        obtain ⟨Z, a, b, c⟩ := C_zer hop H g (clr T p) (by omega) (by omega)
        exact ⟨Z, sub_tr a (clr_sub (by omega) hp), b, by rw [c, hx, hy]⟩
theorem C_part {bl C : Nat → Int} {op : Nat} (hop : op < 256) (H : CSQ bl C op) : ∀ (g S e : Nat), S < g → S ≤ op → smb bl S 8 = 0 → e < 8 → Nat.testBit S e = true → ∃ P, dif P S = 0 ∧ Nat.testBit P e = true ∧ smb bl P 8 = 0 ∧ C S ≤ C (dif S P) + 1
  | 0, S, e, hg, _, _, _, _ => absurd hg (by omega)
  | g + 1, S, e, hg, hS, hs, he, hb => by
    obtain ⟨X, h0, hx, _, h3⟩ := H.2 S (bit_pos hb) hS
    rw [if_pos hs] at hx
    cases h3 with
    | inl y => exact ⟨S, dif_self, hb, hs, by rw [hx, y, dif_self, H.1]; exact Int.le_refl _⟩
    | inr y =>
      obtain ⟨p, hp, hbp, hy⟩ := y
      have hl := (clr_lt (show S < 256 by omega) hp).2.1 hbp
      obtain ⟨Z, a, b, c⟩ := C_zer hop H (clr S p + 1) (clr S p) (by omega) (by omega)
      have hZS : dif Z S = 0 := sub_tr a (clr_sub (by omega) hp)
      have hZp : Nat.testBit Z p = false := by
        cases q : Nat.testBit Z p with
        | false => rfl
        | true =>
          have := dif_0.1 a p q
          rw [clr_bit (by omega) hp, decide_eq_true rfl, Bool.and_eq_true] at this
          exact absurd this.2 (by decide)
      cases q : Nat.testBit Z e with
      | false =>
        refine ⟨dif S Z, dif_sub, dif_in hb q, by rw [smb_dif hZS, hs, b]; rfl, ?_⟩
        have e1 : dif S (dif S Z) = Z := by
          apply Nat.eq_of_testBit_eq
          intro i
          rw [dif_bit, dif_bit]
          have := dif_0.1 hZS i
          cases e2 : Nat.testBit Z i with
          | true => rw [this e2]; rfl
          | false => cases Nat.testBit S i <;> rfl
        rw [e1]
        omega
      | true =>
        have hZl := sub_le a
        obtain ⟨P, pa, pb, pc, pd⟩ := C_part hop H g Z e (by omega) (by omega) b he q
        have hPp : Nat.testBit P p = false := by
          cases r : Nat.testBit P p with
          | false => rfl
          | true => rw [dif_0.1 pa p r] at hZp; exact nomatch hZp
        have hPS := sub_tr pa hZS
        refine ⟨P, hPS, pb, pc, ?_⟩
        have hdl := dif_le (s := S) (t := P)
        have h4 := C_mono1 H (show dif S P ≤ op by omega) hp (dif_in hbp hPp)
        rw [if_pos (show smb bl (dif S P) 8 = 0 by rw [smb_dif hPS, hs, pc]; rfl)] at h4
        have h5 : dif (dif Z P) (clr (dif S P) p) = 0 := by
          refine sub_clr (by omega) hp (dif_0.2 (fun i hi => ?_)) ?_
          · rw [dif_bit, Bool.and_eq_true] at hi
            rw [dif_bit, dif_0.1 hZS i hi.1, hi.2]
            rfl
          · rw [dif_bit, hZp]
            rfl
        have hcl := (clr_lt (show dif S P < 256 by omega) hp).1
        have h6 := C_mono hop H (clr (dif S P) p + 1) (clr (dif S P) p) (dif Z P) (by omega) (by omega) h5
        omega
