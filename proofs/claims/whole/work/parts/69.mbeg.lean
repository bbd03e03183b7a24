/-! the reference: a sum begins, or goes on -/
def MST (B : Nat → Int) (n : Nat) (h : hc_H) (s T f : Nat → Int) (t0 : Nat) (lw : Int) (i w : Nat) (ps : List Int) (q wh : Int) : Prop :=
  h.2.2 71 = mo s ∧ h.2.2 74 = ar 2720 T ∧ h.2.2 75 = ar 300 B ∧ h.2.2 76 = ar 160 f ∧ TA B n s i ∧ s 12 = (t0 : Int) ∧ s 14 = (w : Int) ∧ s 17 = (ps.length : Int) ∧ s 18 = q ∧ s 19 = wh ∧ s 20 = lw - 10 ∧ PL f ps
abbrev mel : List Nat := [7, 8, 9, 10, 11, 14, 17, 18, 19]
abbrev mfl : List Nat := [71, 74, 76]
theorem cnt_2 : ∀ l : List Int, (∀ z, z ∈ l → z = 2) → cnt l = (l.length : Int)
  | [], _ => rfl
  | x :: r, h => by
    rw [cnt, cnt_2 r (fun z hz => h z (List.mem_cons_of_mem x hz)), if_pos (Or.inl (h x List.mem_cons_self)), List.length_cons]
    omega
theorem rk_2 {l : List Int} (h : ∀ z, z ∈ l → z = 2) : ∀ z, z ∈ l → 7 ≤ rkm z := by
  intro z hz
  rw [h z hz]
  decide
theorem PL_app {f : Nat → Int} : ∀ (a b : List Int), PL f (a ++ b) → PL f b
  | [], b, h => h
  | x :: a, b, h => PL_app a b h.2
theorem PL_u {f : Nat → Int} {m : Nat} {v : Int} : ∀ l : List Int, PL f l → l.length ≤ m → PL (hc_u f m v) l
  | [], _, _ => trivial
  | x :: r, h, hl => by
    rw [List.length_cons] at hl
    exact ⟨(hu_n (by omega)).trans h.1, PL_u r h.2 (by omega)⟩
theorem meE {s : Nat → Int} {t0 : Int} {a b : Int} (e : s 12 = t0) : ME mel s (hc_u (hc_u (hc_u s 12 t0) 14 a) 14 b) := by
  have h1 : ME mel s (hc_u s 12 t0) := by
    intro k hk
    by_cases c : k = 12
    · rw [c, hu_s, e]
    · exact hu_n c
  exact (h1.u rfl).u rfl
set_option maxRecDepth 100000 in
theorem c_begin {d : Nat} {h : hc_H} {Q : List hc_V → hc_H → Prop} {B : Nat → Int} {n i w t0 : Nat} {lw q K : Int} {s T f : Nat → Int} {ops rest : List Int} (H : BY B) (hn : n ≤ 300) (hlw : lw = 10 ∨ lw = 11) (hKK : tK B n i = K) (M : MST B n h s T f t0 lw i w (ops ++ rest) q 0) (hm2 : ∀ z, z ∈ ops → z = 2) (hr7 : ∀ z r, rest = z :: r → rkm z < 7) (hb : w + (ops ++ rest).length ≤ i ∧ i ≤ 300 ∧ (ops ++ rest).length ≤ 100 ∧ 0 ≤ q ∧ q ≤ 8 ∧ t0 ≤ 2040) (k1 : ¬ K = 3 → ¬ (23 ≤ K ∧ K ≤ 29) → ¬ K = 50 → ¬ K = 47 → ¬ K = 18 → (K = 22 → aah (ops ++ rest) = false) → Q [xI 1] h) (k2 : K = 3 → ¬ tN B n i ≤ 9999 → Q [xI 2] h) (k3 : (K = 50 ∨ K = 47 ∨ K = 18 ∨ (K = 22 ∧ aah (ops ++ rest) = true)) → q = 8 → Q [xI 3] h) (k5 : 23 ≤ K ∧ K ≤ 29 → nok lw K = false → Q [xI 5] h) (kn : K = 3 → tN B n i ≤ 9999 → ∀ h2 s2 T2, MST B n h2 s2 T2 f t0 lw (i + 1) (w + 1 + ops.length) rest (q - ops.length) 1 → SAM T T2 (t0 + 75) w (1 + ops.length) → T2 (t0 + 75 + 2 * w) = 0 → T2 (t0 + 75 + 2 * w + 1) = tN B n i → CDS T2 (t0 + 75) (w + 1) ops → ME mel s s2 → Fr mfl h h2 → Q [xI 0] h2) (km : 23 ≤ K ∧ K ≤ 29 → nok lw K = true → ∀ h2 s2 T2, MST B n h2 s2 T2 f t0 lw (i + 1) (w + 1 + ops.length) rest (q - ops.length) 1 → SAM T T2 (t0 + 75) w (1 + ops.length) → T2 (t0 + 75 + 2 * w) = 1 → T2 (t0 + 75 + 2 * w + 1) = K - 23 → CDS T2 (t0 + 75) (w + 1) ops → ME mel s s2 → Fr mfl h h2 → Q [xI 0] h2) (ko40 : K = 50 → q < 8 → ∀ h2 s2 f2, MST B n h2 s2 T f2 t0 lw (i + 1) w (40 :: (ops ++ rest)) (q + 1) 0 → ME mel s s2 → Fr mfl h h2 → Q [xI 0] h2) (ko2 : K = 47 → q < 8 → ∀ h2 s2 f2, MST B n h2 s2 T f2 t0 lw (i + 1) w (2 :: (ops ++ rest)) (q + 1) 0 → ME mel s s2 → Fr mfl h h2 → Q [xI 0] h2) (ko41 : K = 18 → q < 8 → ∀ h2 s2 f2, MST B n h2 s2 T f2 t0 lw (i + 1) w (41 :: (ops ++ rest)) (q + 1) 0 → ME mel s s2 → Fr mfl h h2 → Q [xI 0] h2) (ko20 : K = 22 → aah (ops ++ rest) = true → q < 8 → ∀ h2 s2 f2, MST B n h2 s2 T f2 t0 lw (i + 1) w (20 :: (ops ++ rest)) (q + 1) 0 → ME mel s s2 → Fr mfl h h2 → Q [xI 0] h2) : hc_wp (d + 5) mX10_beginOne 0 [xR 71, xI 0, none] [] h Q := by
  obtain ⟨H71, H74, H75, H76, hTA, e12, e14, e17, e18, e19, e20, hp⟩ := M
  have hK : mkd (s 9) (s 11) = K := hTA.2.2.2.1.trans hKK
  have hl : (ops ++ rest).length ≤ 160 := by omega
  have hla : (ops ++ rest).length = ops.length + rest.length := List.length_append
  have h3k := mks_3 hK
  have h50 := mks_50 hK
  have h47 := mks_47 hK
  have h18 := mkw_18 hK
  have h22 := mkw_22 hK
  refine wp_go rfl rfl ?_
  refine e_get rfl H71 rfl rfl ?_
  refine wp_go rfl rfl ?_
  refine e_cne rfl (fun c5 => ?_) (fun c5 => ?_)
  · skip
    refine wp_go rfl rfl ?_
    refine wp_cv rfl rfl rfl H71 rfl rfl rfl ?_
    refine c_nameOf H71 hK ?_
    by_cases hnm : 23 ≤ K ∧ K ≤ 29
    · skip
      rw [if_pos hnm]
      refine e_istn (L' := [xR 71, xI 0, xI (K - 23)]) rfl rfl rfl ?_
      refine wp_go rfl rfl ?_
      refine e_iflt rfl (fun c26 => absurd c26 (by omega)) (fun c26 => ?_)
      refine wp_go rfl rfl ?_
      refine wp_go rfl rfl ?_
      refine wp_cv rfl rfl rfl H71 rfl rfl rfl ?_
      refine c_isOf H71 hlw e20 hnm (fun q31 => ?_) (fun q31 => ?_)
      · skip
        refine wp_go rfl rfl ?_
        refine wp_go rfl rfl ?_
        refine e_get rfl H71 rfl rfl ?_
        refine wp_go rfl rfl ?_
        refine e_ceq rfl (fun c => absurd c c5) (fun _ => ?_)
        refine wp_go rfl rfl ?_
        refine e_iflt rfl (fun c48 => absurd c48 (by omega)) (fun c48 => ?_)
        refine wp_go rfl rfl ?_
        refine wp_go rfl rfl ?_
        refine e_get rfl H71 rfl rfl ?_
        refine wp_go rfl rfl ?_
        refine e_cne rfl (fun _ => ?_) (fun c => absurd c c5)
        refine wp_go rfl rfl ?_
        refine wp_go rfl rfl ?_
        refine e_get rfl H71 rfl rfl ?_
        refine wp_go rfl rfl ?_
        refine e_cne rfl (fun _ => ?_) (fun c => absurd c c5)
        refine wp_go rfl rfl ?_
        refine wp_cv rfl rfl rfl H71 rfl rfl rfl ?_
        refine c_emit H71 H74 e12 e14 (by omega) (fun h1 B71 B74 BF => ?_)
        refine wp_go rfl rfl ?_
        refine wp_cv rfl rfl rfl B71 rfl rfl rfl ?_
        refine c_nextT (i := i + 1) H hn B71 hTA.1 hTA.2.1 ((BF.2.2 75 rfl).trans H75) (fun h2 s2 C71 CTA CME CFR => ?_)
        refine wp_go rfl rfl ?_
        refine wp_cv rfl rfl rfl C71 rfl rfl rfl ?_
        refine c_whole (w := w + 1) (ops := ops) (rest := rest) hr7 (rk_2 hm2) C71 ((CFR.2.2 74 rfl).trans B74) ((CFR.2.2 76 rfl).trans ((BF.2.2 76 rfl).trans H76)) ((CME 12 rfl).trans rfl) ((CME 14 rfl).trans rfl) ((CME 17 rfl).trans e17) (by rw [(CME 18 rfl).trans e18]; omega) hl hp (by omega) (fun h3 s3 T3 D71 D74 D17 D14 D18 D19 DME DSA DCD DFR => ?_)
        refine wp_go rfl rfl ?_
        refine wp_ret rfl rfl ?_
        have hcn := cnt_2 ops hm2
        have m1 : ME mel s s3 := ((meE e12).tr (CME.mono (nin_sub rfl)) (fun _ z => z)).tr (DME.mono (nin_sub rfl)) (fun _ z => z)
        have t1 : TA B n s3 (i + 1) := ⟨(DME 4 rfl).trans CTA.1, (DME 7 rfl).trans CTA.2.1, (DME 8 rfl).trans CTA.2.2.1, by rw [DME 9 rfl, DME 11 rfl]; exact CTA.2.2.2.1, by rw [DME 9 rfl, DME 10 rfl]; exact CTA.2.2.2.2⟩
        have f1 : Fr mfl h h3 := ((Fr.mono BF (nin_sub rfl)).tr (Fr.mono CFR (nin_sub rfl)) (fun _ z => z)).tr (Fr.mono DFR (nin_sub rfl)) (fun _ z => z)
        have ms : MST B n h3 s3 T3 f t0 lw (i + 1) (w + 1 + ops.length) rest (q - ops.length) 1 := ⟨D71, D74, (f1.2.2 75 rfl).trans H75, ((DFR.2.2 76 rfl).trans ((CFR.2.2 76 rfl).trans ((BF.2.2 76 rfl).trans H76))), t1, (m1 12 rfl).trans e12, D14, D17, by rw [D18, (CME 18 rfl).trans e18, hcn], D19, (m1 20 rfl).trans e20, PL_app ops rest hp⟩
        have sa : SAM T T3 (t0 + 75) w (1 + ops.length) := fun a ha => (DSA a (by omega)).trans (em_ne (by omega))
        exact km hnm q31 h3 s3 T3 ms sa ((DSA _ (by omega)).trans em_at.1) ((DSA _ (by omega)).trans em_at.2) DCD m1 f1
      · skip
        refine wp_go rfl rfl ?_
        refine wp_go rfl rfl ?_
        refine wp_ret rfl rfl ?_
        exact k5 hnm q31
    · skip
      rw [if_neg hnm]
      refine e_istn (L' := [xR 71, xI 0, xI (-1)]) rfl rfl rfl ?_
      refine wp_go rfl rfl ?_
      refine wp_go rfl rfl ?_
      refine wp_go rfl rfl ?_
      refine e_get rfl H71 rfl rfl ?_
      refine wp_go rfl rfl ?_
      refine e_ceq rfl (fun c => absurd c c5) (fun _ => ?_)
      refine wp_go rfl rfl ?_
      refine wp_go rfl rfl ?_
      refine wp_go rfl rfl ?_
      refine e_get rfl H71 rfl rfl ?_
      refine wp_go rfl rfl ?_
      refine e_cne rfl (fun c100 => ?_) (fun c100 => ?_)
      · skip
        refine wp_go rfl rfl ?_
        refine e_get rfl H71 rfl rfl ?_
        refine wp_go rfl rfl ?_
        refine e_cne rfl (fun c116 => ?_) (fun c116 => ?_)
        · skip
          refine wp_go rfl rfl ?_
          refine e_get rfl H71 rfl rfl ?_
          refine wp_go rfl rfl ?_
          refine e_cne rfl (fun c130 => ?_) (fun c130 => ?_)
          · skip
            refine wp_go rfl rfl ?_
            refine wp_go rfl rfl ?_
            refine wp_go rfl rfl ?_
            refine wp_go rfl rfl ?_
            refine wp_call rfl rfl rfl rfl ?_
            refine c_w3 (r := 7237492) (by decide +kernel) ?_
            refine wp_cv rfl rfl rfl H71 rfl rfl rfl ?_
            refine c_isWord H71 (fun q161 => ?_) (fun q161 => ?_)
            · skip
              refine wp_go rfl rfl ?_
              refine wp_go rfl rfl ?_
              refine wp_go rfl rfl ?_
              refine wp_cv rfl rfl rfl H71 rfl rfl rfl ?_
              refine c_aah H71 H76 e17 hl hp (fun q169 => ?_) (fun q169 => ?_)
              · skip
                refine wp_go rfl rfl ?_
                refine wp_go rfl rfl ?_
                refine wp_go rfl rfl ?_
                refine wp_cv rfl rfl rfl H71 rfl rfl rfl ?_
                refine c_opensBy (i := i + 1) (x := 20) (m := (ops ++ rest).length) H hn H71 H75 H76 hTA.1 hTA.2.1 e17 e18 (by omega) (by omega) (fun z => ?_) (fun z h2 s2 C71 CTA C17 C18 CME C76 CFR => ?_)
                · skip
                  refine wp_go rfl rfl ?_
                  refine wp_ret rfl rfl ?_
                  exact k3 (Or.inr (Or.inr (Or.inr ⟨h22.1 q161, q169⟩))) z
                · skip
                  refine wp_go rfl rfl ?_
                  refine wp_ret rfl rfl ?_
                  have m1 : ME mel s s2 := CME.mono (nin_sub rfl)
                  have f1 : Fr mfl h h2 := Fr.mono CFR (nin_sub rfl)
                  have ms : MST B n h2 s2 T (hc_u f (ops ++ rest).length 20) t0 lw (i + 1) w (20 :: (ops ++ rest)) (q + 1) 0 := ⟨C71, (CFR.2.2 74 rfl).trans H74, (f1.2.2 75 rfl).trans H75, C76, CTA, (m1 12 rfl).trans e12, (CME 14 rfl).trans e14, by rw [C17, List.length_cons], C18, (CME 19 rfl).trans e19, (m1 20 rfl).trans e20, ⟨hu_s, PL_u _ hp (Nat.le_refl _)⟩⟩
                  exact ko20 (h22.1 q161) q169 (by omega) h2 s2 _ ms m1 f1
              · skip
                refine wp_go rfl rfl ?_
                refine wp_go rfl rfl ?_
                refine wp_ret rfl rfl ?_
                have z18 : ¬ K = 18 := fun z => c130 (h18.2 z).1
                exact k1 (fun z => c5 (h3k.2 z)) hnm (fun z => c100 (h50.2 z)) (fun z => c116 (h47.2 z)) z18 (fun _ => q169)
            · skip
              refine wp_go rfl rfl ?_
              refine wp_go rfl rfl ?_
              refine wp_ret rfl rfl ?_
              have z18 : ¬ K = 18 := fun z => c130 (h18.2 z).1
              exact k1 (fun z => c5 (h3k.2 z)) hnm (fun z => c100 (h50.2 z)) (fun z => c116 (h47.2 z)) z18 (fun z => absurd (h22.2 z) q161)
          · skip
            refine wp_go rfl rfl ?_
            refine e_get rfl H71 rfl rfl ?_
            refine e_ldc2 (26982) rfl rfl ?_
            refine wp_go rfl rfl ?_
            refine e_ifne rfl (fun c141 => ?_) (fun c141 => ?_)
            · skip
              refine wp_go rfl rfl ?_
              refine wp_go rfl rfl ?_
              refine wp_go rfl rfl ?_
              refine wp_go rfl rfl ?_
              refine wp_call rfl rfl rfl rfl ?_
              refine c_w3 (r := 7237492) (by decide +kernel) ?_
              refine wp_cv rfl rfl rfl H71 rfl rfl rfl ?_
              refine c_isWord H71 (fun q161 => ?_) (fun q161 => ?_)
              · skip
                refine wp_go rfl rfl ?_
                refine wp_go rfl rfl ?_
                refine wp_go rfl rfl ?_
                refine wp_cv rfl rfl rfl H71 rfl rfl rfl ?_
                refine c_aah H71 H76 e17 hl hp (fun q169 => ?_) (fun q169 => ?_)
                · skip
                  refine wp_go rfl rfl ?_
                  refine wp_go rfl rfl ?_
                  refine wp_go rfl rfl ?_
                  refine wp_cv rfl rfl rfl H71 rfl rfl rfl ?_
                  refine c_opensBy (i := i + 1) (x := 20) (m := (ops ++ rest).length) H hn H71 H75 H76 hTA.1 hTA.2.1 e17 e18 (by omega) (by omega) (fun z => ?_) (fun z h2 s2 C71 CTA C17 C18 CME C76 CFR => ?_)
                  · skip
                    refine wp_go rfl rfl ?_
                    refine wp_ret rfl rfl ?_
                    exact k3 (Or.inr (Or.inr (Or.inr ⟨h22.1 q161, q169⟩))) z
                  · skip
                    refine wp_go rfl rfl ?_
                    refine wp_ret rfl rfl ?_
                    have m1 : ME mel s s2 := CME.mono (nin_sub rfl)
                    have f1 : Fr mfl h h2 := Fr.mono CFR (nin_sub rfl)
                    have ms : MST B n h2 s2 T (hc_u f (ops ++ rest).length 20) t0 lw (i + 1) w (20 :: (ops ++ rest)) (q + 1) 0 := ⟨C71, (CFR.2.2 74 rfl).trans H74, (f1.2.2 75 rfl).trans H75, C76, CTA, (m1 12 rfl).trans e12, (CME 14 rfl).trans e14, by rw [C17, List.length_cons], C18, (CME 19 rfl).trans e19, (m1 20 rfl).trans e20, ⟨hu_s, PL_u _ hp (Nat.le_refl _)⟩⟩
                    exact ko20 (h22.1 q161) q169 (by omega) h2 s2 _ ms m1 f1
                · skip
                  refine wp_go rfl rfl ?_
                  refine wp_go rfl rfl ?_
                  refine wp_ret rfl rfl ?_
                  have z18 : ¬ K = 18 := fun z => c141 (k3_eq.2 (h18.2 z).2)
                  exact k1 (fun z => c5 (h3k.2 z)) hnm (fun z => c100 (h50.2 z)) (fun z => c116 (h47.2 z)) z18 (fun _ => q169)
              · skip
                refine wp_go rfl rfl ?_
                refine wp_go rfl rfl ?_
                refine wp_ret rfl rfl ?_
                have z18 : ¬ K = 18 := fun z => c141 (k3_eq.2 (h18.2 z).2)
                exact k1 (fun z => c5 (h3k.2 z)) hnm (fun z => c100 (h50.2 z)) (fun z => c116 (h47.2 z)) z18 (fun z => absurd (h22.2 z) q161)
            · skip
              refine wp_go rfl rfl ?_
              refine wp_go rfl rfl ?_
              refine wp_cv rfl rfl rfl H71 rfl rfl rfl ?_
              refine c_opensBy (i := i + 1) (x := 41) (m := (ops ++ rest).length) H hn H71 H75 H76 hTA.1 hTA.2.1 e17 e18 (by omega) (by omega) (fun z => ?_) (fun z h2 s2 C71 CTA C17 C18 CME C76 CFR => ?_)
              · skip
                refine wp_ret rfl rfl ?_
                exact k3 (Or.inr (Or.inr (Or.inl (h18.1 ⟨c130, k3_eq.1 c141⟩)))) z
              · skip
                refine wp_ret rfl rfl ?_
                have m1 : ME mel s s2 := CME.mono (nin_sub rfl)
                have f1 : Fr mfl h h2 := Fr.mono CFR (nin_sub rfl)
                have ms : MST B n h2 s2 T (hc_u f (ops ++ rest).length 41) t0 lw (i + 1) w (41 :: (ops ++ rest)) (q + 1) 0 := ⟨C71, (CFR.2.2 74 rfl).trans H74, (f1.2.2 75 rfl).trans H75, C76, CTA, (m1 12 rfl).trans e12, (CME 14 rfl).trans e14, by rw [C17, List.length_cons], C18, (CME 19 rfl).trans e19, (m1 20 rfl).trans e20, ⟨hu_s, PL_u _ hp (Nat.le_refl _)⟩⟩
                exact ko41 (h18.1 ⟨c130, k3_eq.1 c141⟩) (by omega) h2 s2 _ ms m1 f1
        · skip
          refine wp_go rfl rfl ?_
          refine wp_go rfl rfl ?_
          refine wp_cv rfl rfl rfl H71 rfl rfl rfl ?_
          refine c_opensBy (i := i + 1) (x := 2) (m := (ops ++ rest).length) H hn H71 H75 H76 hTA.1 hTA.2.1 e17 e18 (by omega) (by omega) (fun z => ?_) (fun z h2 s2 C71 CTA C17 C18 CME C76 CFR => ?_)
          · skip
            refine wp_ret rfl rfl ?_
            exact k3 (Or.inr (Or.inl (h47.1 c116))) z
          · skip
            refine wp_ret rfl rfl ?_
            have m1 : ME mel s s2 := CME.mono (nin_sub rfl)
            have f1 : Fr mfl h h2 := Fr.mono CFR (nin_sub rfl)
            have ms : MST B n h2 s2 T (hc_u f (ops ++ rest).length 2) t0 lw (i + 1) w (2 :: (ops ++ rest)) (q + 1) 0 := ⟨C71, (CFR.2.2 74 rfl).trans H74, (f1.2.2 75 rfl).trans H75, C76, CTA, (m1 12 rfl).trans e12, (CME 14 rfl).trans e14, by rw [C17, List.length_cons], C18, (CME 19 rfl).trans e19, (m1 20 rfl).trans e20, ⟨hu_s, PL_u _ hp (Nat.le_refl _)⟩⟩
            exact ko2 (h47.1 c116) (by omega) h2 s2 _ ms m1 f1
      · skip
        refine wp_go rfl rfl ?_
        refine wp_go rfl rfl ?_
        refine wp_cv rfl rfl rfl H71 rfl rfl rfl ?_
        refine c_opensBy (i := i + 1) (x := 40) (m := (ops ++ rest).length) H hn H71 H75 H76 hTA.1 hTA.2.1 e17 e18 (by omega) (by omega) (fun z => ?_) (fun z h2 s2 C71 CTA C17 C18 CME C76 CFR => ?_)
        · skip
          refine wp_ret rfl rfl ?_
          exact k3 (Or.inl (h50.1 c100)) z
        · skip
          refine wp_ret rfl rfl ?_
          have m1 : ME mel s s2 := CME.mono (nin_sub rfl)
          have f1 : Fr mfl h h2 := Fr.mono CFR (nin_sub rfl)
          have ms : MST B n h2 s2 T (hc_u f (ops ++ rest).length 40) t0 lw (i + 1) w (40 :: (ops ++ rest)) (q + 1) 0 := ⟨C71, (CFR.2.2 74 rfl).trans H74, (f1.2.2 75 rfl).trans H75, C76, CTA, (m1 12 rfl).trans e12, (CME 14 rfl).trans e14, by rw [C17, List.length_cons], C18, (CME 19 rfl).trans e19, (m1 20 rfl).trans e20, ⟨hu_s, PL_u _ hp (Nat.le_refl _)⟩⟩
          exact ko40 (h50.1 c100) (by omega) h2 s2 _ ms m1 f1
  · skip
    refine wp_go rfl rfl ?_
    refine e_get rfl H71 rfl rfl ?_
    refine wp_go rfl rfl ?_
    refine e_cle rfl (fun c15 => ?_) (fun c15 => ?_)
    · skip
      refine wp_go rfl rfl ?_
      refine wp_cv rfl rfl rfl H71 rfl rfl rfl ?_
      refine c_nameOf H71 hK ?_
      by_cases hnm : 23 ≤ K ∧ K ≤ 29
      · skip
        exact absurd (h3k.1 c5) (by omega)
      · skip
        rw [if_neg hnm]
        refine e_istn (L' := [xR 71, xI 0, xI (-1)]) rfl rfl rfl ?_
        refine wp_go rfl rfl ?_
        refine wp_go rfl rfl ?_
        refine wp_go rfl rfl ?_
        refine e_get rfl H71 rfl rfl ?_
        refine wp_go rfl rfl ?_
        refine e_ceq rfl (fun _ => ?_) (fun c => absurd c5 c)
        refine wp_go rfl rfl ?_
        refine wp_go rfl rfl ?_
        refine e_get rfl H71 rfl rfl ?_
        refine wp_go rfl rfl ?_
        refine e_cne rfl (fun c => absurd c5 c) (fun _ => ?_)
        refine wp_go rfl rfl ?_
        refine wp_go rfl rfl ?_
        refine wp_go rfl rfl ?_
        refine e_get rfl H71 rfl rfl ?_
        refine wp_go rfl rfl ?_
        refine e_cne rfl (fun c => absurd c5 c) (fun _ => ?_)
        refine wp_go rfl rfl ?_
        refine e_get rfl H71 rfl rfl ?_
        refine wp_go rfl rfl ?_
        refine wp_cv rfl rfl rfl H71 rfl rfl rfl ?_
        refine c_emit H71 H74 e12 e14 (by omega) (fun h1 B71 B74 BF => ?_)
        refine wp_go rfl rfl ?_
        refine wp_cv rfl rfl rfl B71 rfl rfl rfl ?_
        refine c_nextT (i := i + 1) H hn B71 hTA.1 hTA.2.1 ((BF.2.2 75 rfl).trans H75) (fun h2 s2 C71 CTA CME CFR => ?_)
        refine wp_go rfl rfl ?_
        refine wp_cv rfl rfl rfl C71 rfl rfl rfl ?_
        refine c_whole (w := w + 1) (ops := ops) (rest := rest) hr7 (rk_2 hm2) C71 ((CFR.2.2 74 rfl).trans B74) ((CFR.2.2 76 rfl).trans ((BF.2.2 76 rfl).trans H76)) ((CME 12 rfl).trans rfl) ((CME 14 rfl).trans rfl) ((CME 17 rfl).trans e17) (by rw [(CME 18 rfl).trans e18]; omega) hl hp (by omega) (fun h3 s3 T3 D71 D74 D17 D14 D18 D19 DME DSA DCD DFR => ?_)
        refine wp_go rfl rfl ?_
        refine wp_ret rfl rfl ?_
        have hcn := cnt_2 ops hm2
        have m1 : ME mel s s3 := ((meE e12).tr (CME.mono (nin_sub rfl)) (fun _ z => z)).tr (DME.mono (nin_sub rfl)) (fun _ z => z)
        have t1 : TA B n s3 (i + 1) := ⟨(DME 4 rfl).trans CTA.1, (DME 7 rfl).trans CTA.2.1, (DME 8 rfl).trans CTA.2.2.1, by rw [DME 9 rfl, DME 11 rfl]; exact CTA.2.2.2.1, by rw [DME 9 rfl, DME 10 rfl]; exact CTA.2.2.2.2⟩
        have f1 : Fr mfl h h3 := ((Fr.mono BF (nin_sub rfl)).tr (Fr.mono CFR (nin_sub rfl)) (fun _ z => z)).tr (Fr.mono DFR (nin_sub rfl)) (fun _ z => z)
        have ms : MST B n h3 s3 T3 f t0 lw (i + 1) (w + 1 + ops.length) rest (q - ops.length) 1 := ⟨D71, D74, (f1.2.2 75 rfl).trans H75, ((DFR.2.2 76 rfl).trans ((CFR.2.2 76 rfl).trans ((BF.2.2 76 rfl).trans H76))), t1, (m1 12 rfl).trans e12, D14, D17, by rw [D18, (CME 18 rfl).trans e18, hcn], D19, (m1 20 rfl).trans e20, PL_app ops rest hp⟩
        have sa : SAM T T3 (t0 + 75) w (1 + ops.length) := fun a ha => (DSA a (by omega)).trans (em_ne (by omega))
        have hN : tN B n i = s 10 := by have := hTA.2.2.2.2 c5; omega
        exact kn (h3k.1 c5) (by have := hTA.2.2.2.2 c5; omega) h3 s3 T3 ms sa ((DSA _ (by omega)).trans em_at.1) (((DSA _ (by omega)).trans em_at.2).trans hN.symm) DCD m1 f1
    · skip
      refine wp_go rfl rfl ?_
      refine wp_ret rfl rfl ?_
      exact k2 (h3k.1 c5) (by have := hTA.2.2.2.2 c5; omega)
