/-! netting, pure: the reference counts as the class does, both take the same part -/
abbrev fmc (sm M : Nat → Int) (S T : Nat) : Prop := dif T S = 0 ∧ Nat.testBit T (tz S) = true ∧ sm T = 0 ∧ 0 ≤ M (dif S T)
theorem fm_ge {sm M : Nat → Int} {S : Nat} : ∀ n : Nat, -1 ≤ fmS sm M S n ∧ (∀ T, 1 ≤ T → T ≤ n → fmc sm M S T → M (dif S T) + 1 ≤ fmS sm M S n) ∧ (fmS sm M S n = -1 ∨ ∃ T, 1 ≤ T ∧ T ≤ n ∧ fmc sm M S T ∧ fmS sm M S n = M (dif S T) + 1)
  | 0 => ⟨Int.le_refl _, fun T h1 h2 => absurd h1 (by omega), Or.inl rfl⟩
  | n + 1 => by
    obtain ⟨i0, i1, i2⟩ := fm_ge (sm := sm) (M := M) (S := S) n
    rw [fmS, fmt]
    by_cases c : fmc sm M S (n + 1)
    · by_cases q : fmS sm M S n < M (dif S (n + 1)) + 1
      · rw [if_pos ⟨c.1, c.2.1, c.2.2.1, c.2.2.2, q⟩]
        refine ⟨by omega, fun T h1 h2 h3 => ?_, Or.inr ⟨n + 1, by omega, by omega, c, rfl⟩⟩
        by_cases z : T = n + 1
        · rw [z]
          exact Int.le_refl _
        · have := i1 T h1 (by omega) h3
          omega
      · rw [if_neg (fun z => q z.2.2.2.2)]
        refine ⟨i0, fun T h1 h2 h3 => ?_, ?_⟩
        · by_cases z : T = n + 1
          · rw [z]
            omega
          · exact i1 T h1 (by omega) h3
        · cases i2 with
          | inl y => exact Or.inl y
          | inr y =>
            obtain ⟨T, a, b, r⟩ := y
            exact Or.inr ⟨T, a, by omega, r⟩
    · rw [if_neg (fun z => c ⟨z.1, z.2.1, z.2.2.1, z.2.2.2.1⟩)]
      refine ⟨i0, fun T h1 h2 h3 => ?_, ?_⟩
      · by_cases z : T = n + 1
        · rw [z] at h3
          exact absurd h3 c
        · exact i1 T h1 (by omega) h3
      · cases i2 with
        | inl y => exact Or.inl y
        | inr y =>
          obtain ⟨T, a, b, r⟩ := y
          exact Or.inr ⟨T, a, by omega, r⟩
theorem fm_cg {sm M N : Nat → Int} {S : Nat} (h1 : 1 ≤ S) (hS : S < 256) (h : ∀ q, q < S → N q = M q) : ∀ n : Nat, fmS sm N S n = fmS sm M S n
  | 0 => rfl
  | n + 1 => by
    rw [fmS, fmS, fm_cg h1 hS h n, fmt, fmt]
    by_cases c : Nat.testBit (n + 1) (tz S) = true
    · have hl := dif_le (s := S) (t := n + 1)
      have hn := dif_ne c (tz_at h1 hS).2
      rw [h (dif S (n + 1)) (by omega)]
    · rw [if_neg (fun z => c z.2.1), if_neg (fun z => c z.2.1)]
def MQn (sm M : Nat → Int) (op : Nat) : Prop := M 0 = 0 ∧ ∀ t, 1 ≤ t → dif t op = 0 → M t = fmS sm M t t
theorem M_C {bl sm M C : Nat → Int} {op : Nat} (hop : op < 256) (hsm : ∀ q, q < 256 → sm q = smb bl q 8) (H : CSQ bl C op) (HM : MQn sm M op) : ∀ (g S : Nat), S < g → dif S op = 0 → (smb bl S 8 = 0 → M S = C S) ∧ (¬ smb bl S 8 = 0 → M S = -1)
  | 0, S, hg, _ => absurd hg (by omega)
  | g + 1, S, hg, hS => by
    have hSo := sub_le hS
    by_cases z : S = 0
    · rw [z, HM.1, H.1, smb_0]
      exact ⟨fun _ => rfl, fun y => absurd rfl y⟩
    · have hz := tz_at (s := S) (by omega) (by omega)
      have e := HM.2 S (by omega) hS
      obtain ⟨i0, i1, i2⟩ := fm_ge (sm := sm) (M := M) (S := S) S
      rw [← e] at i0 i1 i2
      have hT : ∀ T, T ≤ S → fmc sm M S T → dif S T < S ∧ dif (dif S T) op = 0 ∧ smb bl T 8 = 0 ∧ smb bl (dif S T) 8 = smb bl S 8 := by
        intro T h1 h2
        have hl := dif_le (s := S) (t := T)
        have hn := dif_ne h2.2.1 hz.2
        have h0 : smb bl T 8 = 0 := by rw [← hsm T (by omega)]; exact h2.2.2.1
        refine ⟨by omega, sub_tr dif_sub hS, h0, ?_⟩
        rw [smb_dif h2.1, h0]
        omega
      constructor
      · intro hs
        obtain ⟨P, pa, pb, pc, pd⟩ := C_part hop H (S + 1) S (tz S) (by omega) hSo hs hz.1 hz.2
        have hPl := sub_le pa
        have hPn := dif_ne pb hz.2
        have hPd := dif_le (s := S) (t := P)
        have hMP := (M_C hop hsm H HM g (dif S P) (by omega) (sub_tr dif_sub hS)).1 (by rw [smb_dif pa, hs, pc]; rfl)
        have hCp := C_pos H (t := dif S P) (by omega)
        have hlow := i1 P (bit_pos pb) hPl ⟨pa, pb, by rw [hsm P (by omega)]; exact pc, by rw [hMP]; exact hCp⟩
        rw [hMP] at hlow
        cases i2 with
        | inl y => omega
        | inr y =>
          obtain ⟨T, a, b, c, r⟩ := y
          obtain ⟨t1, t2, t3, t4⟩ := hT T b c
          have hMT := (M_C hop hsm H HM g (dif S T) (by omega) t2).1 (by rw [t4]; exact hs)
          have h4 := C_mono1 H hSo hz.1 hz.2
          rw [if_pos hs] at h4
          have h5 := C_mono hop H (clr S (tz S) + 1) (clr S (tz S)) (dif S T) (by omega) (by have := (clr_lt (show S < 256 by omega) hz.1).1; omega) (sub_clr (by omega) hz.1 dif_sub (dif_bt c.2.1))
          omega
      · intro hs
        cases i2 with
        | inl y => exact y
        | inr y =>
          obtain ⟨T, a, b, c, r⟩ := y
          obtain ⟨t1, t2, t3, t4⟩ := hT T b c
          have hMT := (M_C hop hsm H HM g (dif S T) (by omega) t2).2 (by rw [t4]; exact hs)
          have := c.2.2.2
          omega
theorem ptl_ch {sm M : Nat → Int} {S : Nat} : ∀ (g T : Nat), S < T + g → (ptl sm M S g T = 0 ∧ ∀ U, T ≤ U → U ≤ S → ptk sm M S U = false) ∨ (T ≤ ptl sm M S g T ∧ ptl sm M S g T ≤ S ∧ ptk sm M S (ptl sm M S g T) = true ∧ ∀ U, T ≤ U → U < ptl sm M S g T → ptk sm M S U = false)
  | 0, T, h => Or.inl ⟨rfl, fun U h1 h2 => absurd h1 (by omega)⟩
  | g + 1, T, h => by
    rw [ptl]
    by_cases c : S < T
    · rw [if_pos c]
      exact Or.inl ⟨rfl, fun U h1 h2 => absurd h1 (by omega)⟩
    · rw [if_neg c]
      by_cases q : ptk sm M S T = true
      · rw [if_pos q]
        exact Or.inr ⟨Nat.le_refl _, by omega, q, fun U h1 h2 => absurd h1 (by omega)⟩
      · rw [if_neg q]
        have q2 : ptk sm M S T = false := by
          cases e : ptk sm M S T with
          | false => rfl
          | true => exact absurd e q
        cases ptl_ch (sm := sm) (M := M) (S := S) g (T + 1) (by omega) with
        | inl y =>
          refine Or.inl ⟨y.1, fun U h1 h2 => ?_⟩
          by_cases z : U = T
          · rw [z]
            exact q2
          · exact y.2 U (by omega) h2
        | inr y =>
          refine Or.inr ⟨by omega, y.2.1, y.2.2.1, fun U h1 h2 => ?_⟩
          by_cases z : U = T
          · rw [z]
            exact q2
          · exact y.2.2.2 U (by omega) h2
theorem lws_ch {sm C : Nat → Int} {S : Nat} : ∀ (g T : Nat), S ≤ T + g → (lwsF sm C S g T = S ∧ ∀ U, T ≤ U → U < S → okp sm C S U = false) ∨ (T ≤ lwsF sm C S g T ∧ lwsF sm C S g T < S ∧ okp sm C S (lwsF sm C S g T) = true ∧ ∀ U, T ≤ U → U < lwsF sm C S g T → okp sm C S U = false)
  | 0, T, h => Or.inl ⟨rfl, fun U h1 h2 => absurd h1 (by omega)⟩
  | g + 1, T, h => by
    rw [lwsF]
    by_cases c : T < S
    · rw [if_pos c]
      by_cases q : okp sm C S T = true
      · rw [if_pos q]
        exact Or.inr ⟨Nat.le_refl _, by omega, q, fun U h1 h2 => absurd h1 (by omega)⟩
      · rw [if_neg q]
        have q2 : okp sm C S T = false := by
          cases e : okp sm C S T with
          | false => rfl
          | true => exact absurd e q
        cases lws_ch (sm := sm) (C := C) (S := S) g (T + 1) (by omega) with
        | inl y =>
          refine Or.inl ⟨y.1, fun U h1 h2 => ?_⟩
          by_cases z : U = T
          · rw [z]
            exact q2
          · exact y.2 U (by omega) h2
        | inr y =>
          refine Or.inr ⟨by omega, y.2.1, y.2.2.1, fun U h1 h2 => ?_⟩
          by_cases z : U = T
          · rw [z]
            exact q2
          · exact y.2.2.2 U (by omega) h2
    · rw [if_neg c]
      exact Or.inl ⟨rfl, fun U h1 h2 => absurd h1 (by omega)⟩
theorem pt_ok {bl sm smC M C : Nat → Int} {op S T : Nat} (hop : op < 256) (hsm : ∀ q, q < 256 → sm q = smb bl q 8) (hsC : ∀ q, q ≤ op → smC q = smb bl q 8) (H : CSQ bl C op) (HM : MQn sm M op) (hS : dif S op = 0) (hs : smb bl S 8 = 0) (hT : T ≤ S) : ptk sm M S T = okp smC C S T := by
  have hSo := sub_le hS
  have hMS := (M_C hop hsm H HM (S + 1) S (by omega) hS).1 hs
  have hdl := dif_le (s := S) (t := T)
  unfold ptk okp
  rw [hsC T (by omega), hsm T (by omega), hMS]
  by_cases c1 : dif T S = 0
  · by_cases c3 : smb bl T 8 = 0
    · have hMT := (M_C hop hsm H HM (dif S T + 1) (dif S T) (by omega) (sub_tr dif_sub hS)).1 (by rw [smb_dif c1, hs, c3]; rfl)
      have hp := C_pos H (t := dif S T) (by omega)
      rw [hMT, Bool.eq_iff_iff]
      simp only [decide_eq_true_eq, Bool.and_eq_true]
      constructor
      · intro z
        exact ⟨⟨⟨z.1, z.2.1⟩, z.2.2.1⟩, z.2.2.2.2⟩
      · intro z
        exact ⟨z.1.1.1, z.1.1.2, z.1.2, hp, z.2⟩
    · rw [decide_eq_false (fun z => c3 z.2.2.1), decide_eq_false c3, Bool.and_false, Bool.false_and]
  · rw [decide_eq_false (fun z => c1 z.1), decide_eq_false c1, Bool.false_and, Bool.false_and, Bool.false_and]
theorem pt_eq {bl sm smC M C : Nat → Int} {op S : Nat} (hop : op < 256) (hsm : ∀ q, q < 256 → sm q = smb bl q 8) (hsC : ∀ q, q ≤ op → smC q = smb bl q 8) (H : CSQ bl C op) (HM : MQn sm M op) (h1 : 1 ≤ S) (hS : dif S op = 0) (hs : smb bl S 8 = 0) : ptl sm M S (S + 1) 1 = lwsF smC C S 256 (2 ^ tz S) ∧ ptk sm M S (ptl sm M S (S + 1) 1) = true := by
  have hSo := sub_le hS
  have hz := tz_at h1 (show S < 256 by omega)
  have hMS := (M_C hop hsm H HM (S + 1) S (by omega) hS).1 hs
  have hq : ∀ T, T ≤ S → ptk sm M S T = okp smC C S T := fun T hT => pt_ok hop hsm hsC H HM hS hs hT
  have hlow : ∀ T, ptk sm M S T = true → 2 ^ tz S ≤ T := by
    intro T h
    have h2 := (of_decide_eq_true h).2.1
    by_cases c : 2 ^ tz S ≤ T
    · exact c
    · rw [Nat.testBit_lt_two_pow (by omega)] at h2
      exact nomatch h2
  have hex : ∃ T, 1 ≤ T ∧ T ≤ S ∧ ptk sm M S T = true := by
    obtain ⟨i0, i1, i2⟩ := fm_ge (sm := sm) (M := M) (S := S) S
    rw [← HM.2 S h1 hS] at i0 i1 i2
    cases i2 with
    | inl y =>
      have := C_pos H hSo
      omega
    | inr y =>
      obtain ⟨T, a, b, c, r⟩ := y
      exact ⟨T, a, b, decide_eq_true ⟨c.1, c.2.1, c.2.2.1, c.2.2.2, r.symm⟩⟩
  cases ptl_ch (sm := sm) (M := M) (S := S) (S + 1) 1 (by omega) with
  | inl y =>
    obtain ⟨T, a, b, c⟩ := hex
    rw [y.2 T a b] at c
    exact nomatch c
  | inr y =>
    refine ⟨?_, y.2.2.1⟩
    have hge := hlow _ y.2.2.1
    cases lws_ch (sm := smC) (C := C) (S := S) 256 (2 ^ tz S) (Nat.le_trans (show S ≤ 256 by omega) (Nat.le_add_left _ _)) with
    | inl x =>
      rw [x.1]
      by_cases c : ptl sm M S (S + 1) 1 < S
      · have := x.2 _ hge c
        rw [← hq _ (by omega), y.2.2.1] at this
        exact nomatch this
      · omega
    | inr x =>
      have hx := x.2.2.1
      rw [← hq _ (by omega)] at hx
      by_cases c : ptl sm M S (S + 1) 1 < lwsF smC C S 256 (2 ^ tz S)
      · have := x.2.2.2 _ hge c
        rw [← hq _ (by omega), y.2.2.1] at this
        exact nomatch this
      · by_cases c2 : lwsF smC C S 256 (2 ^ tz S) < ptl sm M S (S + 1) 1
        · have := y.2.2.2 _ (by have : 0 < 2 ^ tz S := Nat.pow_pos (by decide); omega) c2
          rw [hx] at this
          exact nomatch this
        · omega
theorem cnb_dif {S T : Nat} (h : dif T S = 0) : ∀ n : Nat, cnb (dif S T) n + cnb T n = cnb S n
  | 0 => rfl
  | n + 1 => by
    have ih := cnb_dif h n
    have hb := (dif_0.1 h) n
    rw [cnb, cnb, cnb, dif_bit]
    cases e : Nat.testBit T n with
    | true =>
      rw [hb e]
      simp <;> omega
    | false => cases Nat.testBit S n <;> simp <;> omega
theorem cnb_bit {S p : Nat} (hp : p < 8) (hb : Nat.testBit S p = true) : 1 ≤ cnb S 8 := by
  have h1 := cnb_le (S := S) (show p + 1 ≤ 8 by omega)
  have h2 : cnb S (p + 1) = cnb S p + 1 := by rw [cnb, if_pos hb]
  omega
theorem cnb_8 (S : Nat) : ∀ n : Nat, cnb S n ≤ n
  | 0 => Nat.le_refl _
  | n + 1 => by
    have := cnb_8 S n
    rw [cnb]
    split <;> omega
