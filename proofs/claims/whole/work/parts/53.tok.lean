/-! the class: Tokens, fourth part: one token, all tokens -/
theorem STR.fr {h h2 : hc_H} {l : List Nat} (H : STR h) (F : Fr l h h2) (hl : l.all (fun x => Nat.blt 21 x) = true) : STR h2 := by
  intro i hi
  refine (F.2.2 (i + 1) ?_).trans (H i hi)
  clear F
  induction l with
  | nil => rfl
  | cons a l ih =>
    simp only [List.all_cons, Bool.and_eq_true] at hl
    have h1 : 21 < a := by have := hl.1; rw [Nat.blt_eq] at this; exact this
    have h2 := ih hl.2
    simp only [nin, h2, Bool.and_true]
    rw [hc_bne (show i + 1 ≠ a by omega)]
    rfl
set_option maxRecDepth 100000 in
theorem l_so2 {d : Nat} {h : hc_H} {Q : List hc_V → hc_H → Prop} {ct b : Int} {i n p : Nat} {B ks ps ns : Nat → Int} (hn : n ≤ 300) (hp : p ≤ n) (hi : i < 301) (HS : STR h) (H51 : h.2.2 51 = tko ct (n : Int) (p : Int)) (H70 : h.2.2 70 = ar 300 B) (H52 : h.2.2 52 = ar 301 ks) (H53 : h.2.2 53 = ar 301 ps) (H54 : h.2.2 54 = ar 301 ns) (k : ∀ h2 ks2 ps2 ns2, h2.2.2 51 = tko ct (n : Int) ((tke B n p : Nat) : Int) → h2.2.2 52 = ar 301 ks2 → h2.2.2 53 = ar 301 ps2 → h2.2.2 54 = ar 301 ns2 → (ks2 i = tkk B n p ∧ ps2 i = (p : Int) ∧ ns2 i = tkn B n p) → (∀ j, j ≠ i → ks2 j = ks j ∧ ps2 j = ps j ∧ ns2 j = ns j) → Fr [51, 52, 53, 54] h h2 → Q [] h2) : hc_wp (d + 6) mX6_scanOne 51 [xR 51, xI (i : Int), xI b] [] h Q := by
  refine wp_go rfl rfl ?_
  refine e_get rfl H51 rfl rfl ?_
  refine wp_go rfl rfl ?_
  refine wp_go rfl rfl ?_
  refine e_get rfl H51 rfl rfl ?_
  refine e_iastE (p := i) rfl H53 ⟨by omega, by omega⟩ ?_
  refine wp_go rfl rfl ?_
  refine e_get rfl H51 rfl rfl ?_
  refine wp_go rfl rfl ?_
  refine wp_go rfl rfl ?_
  refine e_iastE (p := i) rfl H54 ⟨by omega, by omega⟩ ?_
  refine wp_go rfl rfl ?_
  refine wp_go rfl rfl ?_
  refine e_get rfl H51 rfl rfl ?_
  refine wp_cv rfl rfl rfl H51 rfl rfl rfl ?_
  refine c_byteAt (d := d + 5) (p := p) H51 H70 hn ?_
  refine e_istn (L' := [xR 51, xI (i : Int), xI (bt B n p)]) rfl rfl rfl ?_
  refine wp_go rfl rfl ?_
  refine wp_go rfl rfl ?_
  refine e_cne rfl (fun c79 => ?_) (fun c79 => ?_)
  · skip
    have hb : ¬ bt B n p = -1 := by omega
    have HSW : STR (hc_wr (hc_wr h 53 (ar 301 (hc_u ps i (p : Int)))) 54 (ar 301 (hc_u ns i 0))) := STR.fr HS (((Fr.rf (l := [51, 52, 53, 54])).wr rfl).wr rfl) (by decide)
    refine wp_go rfl rfl ?_
    refine wp_call rfl rfl rfl rfl ?_
    refine c_tisLetter  (fun q93 => ?_) (fun q93 => ?_)
    · skip
      refine wp_go rfl rfl ?_
      refine wp_go rfl rfl ?_
      refine e_get rfl H51 rfl rfl ?_
      refine wp_go rfl rfl ?_
      refine wp_go rfl rfl ?_
      refine wp_cv rfl rfl rfl H51 rfl rfl rfl ?_
      refine c_takeWord (d := d) hn hp HSW H51 H70 (fun h2 A1 F1 => ?_)
      have G52 := (F1.2.2 52 rfl).trans H52
      refine e_iastE (p := i) rfl G52 ⟨by omega, by omega⟩ ?_
      refine wp_go rfl rfl ?_
      refine wp_ret rfl rfl ?_
      have hd : isDi (bt B n p) = false := by
        have z := of_decide_eq_true q93
        unfold isDi
        exact decide_eq_false (by omega)
      have e1 : tke B n p = rne isLe B n 300 p := by unfold tke; rw [if_neg hb, if_pos q93]
      refine k _ (hc_u ks i (wkd B n p (rne isLe B n 300 p) 20 10)) (hc_u ps i (p : Int)) (hc_u ns i 0) (by rw [e1]; exact A1) rfl ((F1.2.2 53 rfl).trans rfl) ((F1.2.2 54 rfl).trans rfl) ⟨?_, hu_s, ?_⟩ (fun j hj => ⟨hu_n hj, hu_n hj, hu_n hj⟩) ((Fr.tr ((Fr.rf.wr rfl).wr rfl) (Fr.mono F1 (nin_sub rfl)) (fun _ z => z)).wr rfl)
      · rw [hu_s]; unfold tkk; rw [if_neg hb, if_pos q93]
      · rw [hu_s]; unfold tkn; rw [if_neg (nt hd)]
    · skip
      refine wp_go rfl rfl ?_
      refine wp_go rfl rfl ?_
      refine wp_call rfl rfl rfl rfl ?_
      refine c_tisDigit  (fun q113 => ?_) (fun q113 => ?_)
      · skip
        refine wp_go rfl rfl ?_
        refine wp_go rfl rfl ?_
        refine e_get rfl H51 rfl rfl ?_
        refine wp_go rfl rfl ?_
        refine wp_go rfl rfl ?_
        refine e_iastE (p := i) rfl H52 ⟨by omega, by omega⟩ ?_
        refine wp_go rfl rfl ?_
        refine e_get rfl H51 rfl rfl ?_
        refine wp_go rfl rfl ?_
        refine wp_go rfl rfl ?_
        refine wp_cv rfl rfl rfl H51 rfl rfl rfl ?_
        refine c_takeNumber6 (d := d + 4) hn hp H51 H70 (fun h2 A1 F1 => ?_)
        have G54 := (F1.2.2 54 rfl)
        refine e_iastE (p := i) rfl G54 ⟨by omega, by omega⟩ ?_
        refine wp_go rfl rfl ?_
        refine wp_ret rfl rfl ?_
        have e1 : tke B n p = rne isDi B n 300 p := by unfold tke; rw [if_neg hb, if_neg (nt q93), if_pos q113]
        refine k _ (hc_u ks i 3) (hc_u ps i (p : Int)) (hc_u (hc_u ns i 0) i (dgv B n 300 p 0)) (by rw [e1]; exact A1) ((F1.2.2 52 rfl).trans rfl) ((F1.2.2 53 rfl).trans rfl) rfl ⟨?_, hu_s, ?_⟩ (fun j hj => ⟨hu_n hj, hu_n hj, (hu_n hj).trans (hu_n hj)⟩) ((Fr.tr (((Fr.rf.wr rfl).wr rfl).wr rfl) (Fr.mono F1 (nin_sub rfl)) (fun _ z => z)).wr rfl)
        · rw [hu_s]; unfold tkk; rw [if_neg hb, if_neg (nt q93), if_pos q113]
        · rw [hu_s]; unfold tkn; rw [if_pos q113]
      · skip
        refine wp_go rfl rfl ?_
        refine wp_go rfl rfl ?_
        refine e_get rfl H51 rfl rfl ?_
        refine wp_go rfl rfl ?_
        refine wp_go rfl rfl ?_
        refine wp_go rfl rfl ?_
        refine wp_cv rfl rfl rfl H51 rfl rfl rfl ?_
        refine c_takeSign (d := d + 4) hn (by omega) H51 H70 (fun kd hkd h2 A1 F1 => ?_)
        have G52 := (F1.2.2 52 rfl).trans H52
        refine e_iastE (p := i) rfl G52 ⟨by omega, by omega⟩ ?_
        refine wp_ret rfl rfl ?_
        have hk2 : kd = sgw B n p := hkd
        have e1 : ((tke B n p : Nat) : Int) = (p : Int) + if kd = 41 ∨ kd = 43 then 2 else 1 := by
          unfold tke
          rw [if_neg hb, if_neg (nt q93), if_neg (nt q113), hk2]
          split <;> omega
        refine k _ (hc_u ks i kd) (hc_u ps i (p : Int)) (hc_u ns i 0) (by rw [e1]; exact A1) rfl ((F1.2.2 53 rfl).trans rfl) ((F1.2.2 54 rfl).trans rfl) ⟨?_, hu_s, ?_⟩ (fun j hj => ⟨hu_n hj, hu_n hj, hu_n hj⟩) ((Fr.tr ((Fr.rf.wr rfl).wr rfl) (Fr.mono F1 (nin_sub rfl)) (fun _ z => z)).wr rfl)
        · rw [hu_s]; unfold tkk; rw [if_neg hb, if_neg (nt q93), if_neg (nt q113), hk2]
        · rw [hu_s]; unfold tkn; rw [if_neg (nt q113)]
  · skip
    have hb : bt B n p = -1 := by omega
    refine wp_go rfl rfl ?_
    refine e_get rfl H51 rfl rfl ?_
    refine wp_go rfl rfl ?_
    refine wp_go rfl rfl ?_
    refine e_iastE (p := i) rfl H52 ⟨by omega, by omega⟩ ?_
    refine wp_go rfl rfl ?_
    refine wp_ret rfl rfl ?_
    have e1 : tke B n p = p := by unfold tke; rw [if_pos hb]
    refine k _ (hc_u ks i 0) (hc_u ps i (p : Int)) (hc_u ns i 0) (by rw [e1]; exact H51) rfl rfl rfl ⟨?_, hu_s, ?_⟩ (fun j hj => ⟨hu_n hj, hu_n hj, hu_n hj⟩) (((Fr.rf.wr rfl).wr rfl).wr rfl)
    · rw [hu_s]; unfold tkk; rw [if_pos hb]
    · rw [hu_s]; unfold tkn; rw [if_neg (by rw [hb]; decide)]
set_option maxRecDepth 100000 in
theorem c_scanOne {d : Nat} {h : hc_H} {Q : List hc_V → hc_H → Prop} {ct : Int} {i n q : Nat} {B ks ps ns : Nat → Int} (hn : n ≤ 300) (hq : q ≤ n) (hi : i < 301) (HS : STR h) (H51 : h.2.2 51 = tko ct (n : Int) (q : Int)) (H70 : h.2.2 70 = ar 300 B) (H52 : h.2.2 52 = ar 301 ks) (H53 : h.2.2 53 = ar 301 ps) (H54 : h.2.2 54 = ar 301 ns) (k : ∀ h2 ks2 ps2 ns2, h2.2.2 51 = tko ct (n : Int) ((tke B n (tpl B n q) : Nat) : Int) → h2.2.2 52 = ar 301 ks2 → h2.2.2 53 = ar 301 ps2 → h2.2.2 54 = ar 301 ns2 → (ks2 i = tkk B n (tpl B n q) ∧ ps2 i = ((tpl B n q : Nat) : Int) ∧ ns2 i = tkn B n (tpl B n q)) → (∀ j, j ≠ i → ks2 j = ks j ∧ ps2 j = ps j ∧ ns2 j = ns j) → Fr [51, 52, 53, 54] h h2 → Q [] h2) : hc_wp (d + 6) mX6_scanOne 0 [xR 51, xI (i : Int), none] [] h Q := by
  refine wp_go rfl rfl ?_
  refine e_iflt rfl (fun c1 => absurd c1 (by omega)) (fun c1 => ?_)
  refine wp_go rfl rfl ?_
  refine wp_go rfl rfl ?_
  refine e_clt rfl (fun c8 => ?_) (fun c8 => absurd (show (i : Int) < 301 by omega) c8)
  refine wp_go rfl rfl ?_
  refine e_istn (L' := [xR 51, xI (i : Int), xI 0]) rfl rfl rfl ?_
  refine l_so1 (d := d + 5) hn 300 q 0 h (by omega) hq H51 H70 Fr.rf (fun h2 b2 A F => ?_) trivial
  have hb := rne_bd (B := B) (n := n) bl_k 300 q hq
  refine l_so2 (d := d) hn hb.2 hi (STR.fr HS F (by decide)) A ((F.2.2 70 rfl).trans H70) ((F.2.2 52 rfl).trans H52) ((F.2.2 53 rfl).trans H53) ((F.2.2 54 rfl).trans H54) (fun h3 ks2 ps2 ns2 B1 B2 B3 B4 B5 B6 F3 => ?_)
  exact k h3 ks2 ps2 ns2 B1 B2 B3 B4 B5 B6 ((Fr.mono F (nin_sub rfl)).tr F3 (fun _ z => z))
set_option maxRecDepth 100000 in
theorem c_kindAt {d : Nat} {h : hc_H} {Q : List hc_V → hc_H → Prop} {bs : hc_V} {c i : Nat} {bh : Int} {n : Nat} {ks : Nat → Int} (H51 : h.2.2 51 = .inr (6, [xR 52, xR 53, xR 54, xI (c : Int), bs, xI (n : Int), xI bh])) (H : h.2.2 52 = ar 301 ks) (hc : c ≤ 301) (kt : i < c → Q [xI (ks i)] h) (kf : c ≤ i → Q [xI 0] h) : hc_wp d mX6_kindAt 0 [xR 51, xI (i : Int)] [] h Q := by
  refine wp_go rfl rfl ?_
  refine e_iflt rfl (fun c1 => ?_) (fun c1 => ?_)
  · skip
    refine wp_go rfl rfl ?_
    refine wp_ret rfl rfl ?_
    first | exact absurd c1 (by omega) | exact absurd c16 (by omega) | exact kf (by omega)
  · skip
    refine wp_go rfl rfl ?_
    refine wp_go rfl rfl ?_
    refine e_get rfl H51 rfl rfl ?_
    refine e_cge rfl (fun c9 => ?_) (fun c9 => ?_)
    · skip
      refine wp_go rfl rfl ?_
      refine wp_ret rfl rfl ?_
      first | exact absurd c1 (by omega) | exact absurd c16 (by omega) | exact kf (by omega)
    · skip
      refine wp_go rfl rfl ?_
      refine wp_go rfl rfl ?_
      refine e_cge rfl (fun c16 => ?_) (fun c16 => ?_)
      · skip
        refine wp_go rfl rfl ?_
        refine wp_ret rfl rfl ?_
        first | exact absurd c1 (by omega) | exact absurd c16 (by omega) | exact kf (by omega)
      · skip
        refine wp_go rfl rfl ?_
        refine e_get rfl H51 rfl rfl ?_
        refine wp_go rfl rfl ?_
        refine e_aldE (p := i) rfl H rfl ⟨by omega, by omega⟩ ?_
        refine wp_go rfl rfl ?_
        refine wp_ret rfl rfl ?_
        exact kt (by omega)
set_option maxRecDepth 100000 in
theorem c_placeAt {d : Nat} {h : hc_H} {Q : List hc_V → hc_H → Prop} {bs : hc_V} {c i : Nat} {bh : Int} {n : Nat} {ps : Nat → Int} (H51 : h.2.2 51 = .inr (6, [xR 52, xR 53, xR 54, xI (c : Int), bs, xI (n : Int), xI bh])) (H : h.2.2 53 = ar 301 ps) (hc : c ≤ 301) (kt : i < c → Q [xI (ps i)] h) (kf : c ≤ i → Q [xI (n : Int)] h) : hc_wp d mX6_placeAt 0 [xR 51, xI (i : Int)] [] h Q := by
  refine wp_go rfl rfl ?_
  refine e_iflt rfl (fun c1 => ?_) (fun c1 => ?_)
  · skip
    refine wp_go rfl rfl ?_
    refine e_get rfl H51 rfl rfl ?_
    refine wp_ret rfl rfl ?_
    first | exact absurd c1 (by omega) | exact absurd c16 (by omega) | exact kf (by omega)
  · skip
    refine wp_go rfl rfl ?_
    refine wp_go rfl rfl ?_
    refine e_get rfl H51 rfl rfl ?_
    refine e_cge rfl (fun c9 => ?_) (fun c9 => ?_)
    · skip
      refine wp_go rfl rfl ?_
      refine e_get rfl H51 rfl rfl ?_
      refine wp_ret rfl rfl ?_
      first | exact absurd c1 (by omega) | exact absurd c16 (by omega) | exact kf (by omega)
    · skip
      refine wp_go rfl rfl ?_
      refine wp_go rfl rfl ?_
      refine e_cge rfl (fun c16 => ?_) (fun c16 => ?_)
      · skip
        refine wp_go rfl rfl ?_
        refine e_get rfl H51 rfl rfl ?_
        refine wp_ret rfl rfl ?_
        first | exact absurd c1 (by omega) | exact absurd c16 (by omega) | exact kf (by omega)
      · skip
        refine wp_go rfl rfl ?_
        refine e_get rfl H51 rfl rfl ?_
        refine wp_go rfl rfl ?_
        refine e_aldE (p := i) rfl H rfl ⟨by omega, by omega⟩ ?_
        refine wp_go rfl rfl ?_
        refine wp_ret rfl rfl ?_
        exact kt (by omega)
set_option maxRecDepth 100000 in
theorem c_numberAt {d : Nat} {h : hc_H} {Q : List hc_V → hc_H → Prop} {bs : hc_V} {c i : Nat} {bh : Int} {n : Nat} {ns : Nat → Int} (H51 : h.2.2 51 = .inr (6, [xR 52, xR 53, xR 54, xI (c : Int), bs, xI (n : Int), xI bh])) (H : h.2.2 54 = ar 301 ns) (hc : c ≤ 301) (kt : i < c → Q [xI (ns i)] h) (kf : c ≤ i → Q [xI 0] h) : hc_wp d mX6_numberAt 0 [xR 51, xI (i : Int)] [] h Q := by
  refine wp_go rfl rfl ?_
  refine e_iflt rfl (fun c1 => ?_) (fun c1 => ?_)
  · skip
    refine wp_go rfl rfl ?_
    refine wp_ret rfl rfl ?_
    first | exact absurd c1 (by omega) | exact absurd c16 (by omega) | exact kf (by omega)
  · skip
    refine wp_go rfl rfl ?_
    refine wp_go rfl rfl ?_
    refine e_get rfl H51 rfl rfl ?_
    refine e_cge rfl (fun c9 => ?_) (fun c9 => ?_)
    · skip
      refine wp_go rfl rfl ?_
      refine wp_ret rfl rfl ?_
      first | exact absurd c1 (by omega) | exact absurd c16 (by omega) | exact kf (by omega)
    · skip
      refine wp_go rfl rfl ?_
      refine wp_go rfl rfl ?_
      refine e_cge rfl (fun c16 => ?_) (fun c16 => ?_)
      · skip
        refine wp_go rfl rfl ?_
        refine wp_ret rfl rfl ?_
        first | exact absurd c1 (by omega) | exact absurd c16 (by omega) | exact kf (by omega)
      · skip
        refine wp_go rfl rfl ?_
        refine e_get rfl H51 rfl rfl ?_
        refine wp_go rfl rfl ?_
        refine e_aldE (p := i) rfl H rfl ⟨by omega, by omega⟩ ?_
        refine wp_go rfl rfl ?_
        refine wp_ret rfl rfl ?_
        exact kt (by omega)
/-- what the tokens' cells hold: the kinds, places and numbers of a tape -/
def TOKH (h : hc_H) (B : Nat → Int) (n : Nat) : Prop := ∃ (c : Nat) (bh : Int) (ks ps ns : Nat → Int), h.2.2 51 = tko (c : Int) (n : Int) bh ∧ h.2.2 52 = ar 301 ks ∧ h.2.2 53 = ar 301 ps ∧ h.2.2 54 = ar 301 ns ∧ 1 ≤ c ∧ c ≤ 301 ∧ tK B n (c - 1) = 0 ∧ ∀ j, j < c → ks j = tK B n j ∧ ps j = ((tP B n j : Nat) : Int) ∧ ns j = tN B n j
set_option maxRecDepth 100000 in
theorem l_scan {d : Nat} {h0 : hc_H} {Q : List hc_V → hc_H → Prop} {n : Nat} {B : Nat → Int} (H : BY B) (hn : n ≤ 300) (k : ∀ h2, TOKH h2 B n → Fr [51, 52, 53, 54] h0 h2 → Q [] h2) : ∀ (g i : Nat) (h : hc_H) (ks ps ns : Nat → Int), (i ≤ 301 ∧ 301 < i + g) → (i ≠ 0 → i ≤ 301 ∧ (i = 301 → tK B n 300 = 0)) → STR h → h.2.2 51 = tko (i : Int) (n : Int) ((tat B n i : Nat) : Int) → h.2.2 70 = ar 300 B → h.2.2 52 = ar 301 ks → h.2.2 53 = ar 301 ps → h.2.2 54 = ar 301 ns → (∀ j, j < i → ks j = tK B n j ∧ ps j = ((tP B n j : Nat) : Int) ∧ ns j = tN B n j) → (∀ j, j < i - 1 → tK B n j ≠ 0) → Fr [51, 52, 53, 54] h0 h → True → hc_wp (d + 7) mX6_scan 28 [xR 51, xR 70, xI (n : Int), xI (i : Int)] [] h Q := by
  intro g
  induction g with
  | zero =>
    intro i h ks ps ns hg
    exact absurd hg (by omega)
  | succ g ih =>
    intro i h ks ps ns hg hB HS H51 H70 H52 H53 H54 HK HZ HF hT
    refine wp_go rfl rfl ?_
    refine wp_go rfl rfl ?_
    refine e_cge rfl (fun c32 => ?_) (fun c32 => ?_)
    · skip
      refine wp_ret rfl rfl ?_
      have hz : tK B n (i - 1) = 0 := by
        rw [show i - 1 = 300 by omega]
        exact (hB (by omega)).2 (by omega)
      exact k h ⟨i, _, ks, ps, ns, H51, H52, H53, H54, by omega, by omega, hz, HK⟩ HF
    · skip
      refine wp_go rfl rfl ?_
      refine e_ifeq rfl (fun c36 => ?_) (fun c36 => ?_)
      · skip
        refine wp_go rfl rfl ?_
        refine wp_go rfl rfl ?_
        refine wp_cv rfl rfl rfl H51 rfl rfl rfl ?_
        have hnz : ∀ j, j < i → tK B n j ≠ 0 := by
          intro j hj
          rcases Nat.lt_or_ge j (i - 1) with z | z
          · exact HZ j z
          · exact absurd hj (by omega)
        refine c_scanOne (d := d) hn (tat_bd H hn i) (by omega) HS H51 H70 H52 H53 H54 (fun h2 ks2 ps2 ns2 A1 A2 A3 A4 A5 A6 F => ?_)
        refine wp_go rfl rfl ?_
        refine wp_go rfl rfl ?_
        refine e_get rfl A1 rfl rfl ?_
        refine wp_go rfl rfl ?_
        refine e_iadd rfl (by omega) ?_
        refine e_put (fs' := [xR 52, xR 53, xR 54, xI ((i : Int) + 1), xR 70, xI (n : Int), xI ((tat B n (i + 1) : Nat) : Int)]) rfl A1 rfl rfl ?_
        refine e_inc (L' := [xR 51, xR 70, xI (n : Int), xI ((i : Int) + 1)]) rfl rfl (by omega) rfl ?_
        refine wp_go rfl rfl ?_
        refine ih (i + 1) _ ks2 ps2 ns2 ?_ ?_ (STR.fr (STR.fr HS F (by decide)) ((Fr.rf (l := [51])).wr rfl) (by decide)) ?_ ((F.2.2 70 rfl).trans H70) A2 A3 A4 (fun j hj => ?_) (fun j hj => hnz j (by omega)) ((HF.tr F (fun _ z => z)).wr rfl) trivial
        · omega
        · intro _
          have z := tat_ge H hn i hnz
          have z2 := tat_bd (B := B) H hn i
          have z3 := tP_bd (B := B) H hn i
          refine ⟨by omega, fun z4 => ?_⟩
          rw [show i = 300 by omega] at z z2 z3
          exact (tK_0 H hn 300).2 (by omega)
        · show tko ((i : Int) + 1) (n : Int) ((tat B n (i + 1) : Nat) : Int) = _
          rw [show ((i + 1 : Nat) : Int) = (i : Int) + 1 by omega]
        · rcases Nat.lt_or_ge j i with z | z
          · have y := A6 j (by omega)
            rw [y.1, y.2.1, y.2.2]
            exact HK j z
          · rw [show j = i by omega]
            exact A5
      · skip
        refine wp_go rfl rfl ?_
        refine wp_go rfl rfl ?_
        refine wp_go rfl rfl ?_
        refine e_isub rfl (by omega) ?_
        refine wp_cv rfl rfl rfl H51 rfl rfl rfl ?_
        rw [show (i : Int) - 1 = ((i - 1 : Nat) : Int) by omega]
        refine c_kindAt (d := d + 6) H51 H52 (by omega) (fun _ => ?_) (fun z => absurd z (by omega))
        rw [(HK (i - 1) (by omega)).1]
        refine e_ifeq rfl (fun c46 => ?_) (fun c46 => ?_)
        · skip
          refine wp_ret rfl rfl ?_
          have hi0 : i ≠ 0 := by intro z; exact c36 (by omega)
          exact k h ⟨i, _, ks, ps, ns, H51, H52, H53, H54, by omega, by omega, c46, HK⟩ HF
        · skip
          refine wp_go rfl rfl ?_
          refine wp_go rfl rfl ?_
          refine wp_cv rfl rfl rfl H51 rfl rfl rfl ?_
          have hnz : ∀ j, j < i → tK B n j ≠ 0 := by
            intro j hj
            rcases Nat.lt_or_ge j (i - 1) with z | z
            · exact HZ j z
            · rw [show j = i - 1 by omega]; exact c46
          refine c_scanOne (d := d) hn (tat_bd H hn i) (by omega) HS H51 H70 H52 H53 H54 (fun h2 ks2 ps2 ns2 A1 A2 A3 A4 A5 A6 F => ?_)
          refine wp_go rfl rfl ?_
          refine wp_go rfl rfl ?_
          refine e_get rfl A1 rfl rfl ?_
          refine wp_go rfl rfl ?_
          refine e_iadd rfl (by omega) ?_
          refine e_put (fs' := [xR 52, xR 53, xR 54, xI ((i : Int) + 1), xR 70, xI (n : Int), xI ((tat B n (i + 1) : Nat) : Int)]) rfl A1 rfl rfl ?_
          refine e_inc (L' := [xR 51, xR 70, xI (n : Int), xI ((i : Int) + 1)]) rfl rfl (by omega) rfl ?_
          refine wp_go rfl rfl ?_
          refine ih (i + 1) _ ks2 ps2 ns2 ?_ ?_ (STR.fr (STR.fr HS F (by decide)) ((Fr.rf (l := [51])).wr rfl) (by decide)) ?_ ((F.2.2 70 rfl).trans H70) A2 A3 A4 (fun j hj => ?_) (fun j hj => hnz j (by omega)) ((HF.tr F (fun _ z => z)).wr rfl) trivial
          · omega
          · intro _
            have z := tat_ge H hn i hnz
            have z2 := tat_bd (B := B) H hn i
            have z3 := tP_bd (B := B) H hn i
            refine ⟨by omega, fun z4 => ?_⟩
            rw [show i = 300 by omega] at z z2 z3
            exact (tK_0 H hn 300).2 (by omega)
          · show tko ((i : Int) + 1) (n : Int) ((tat B n (i + 1) : Nat) : Int) = _
            rw [show ((i + 1 : Nat) : Int) = (i : Int) + 1 by omega]
          · rcases Nat.lt_or_ge j i with z | z
            · have y := A6 j (by omega)
              rw [y.1, y.2.1, y.2.2]
              exact HK j z
            · rw [show j = i by omega]
              exact A5
set_option maxRecDepth 100000 in
theorem c_scan {d : Nat} {h : hc_H} {Q : List hc_V → hc_H → Prop} {bs : hc_V} {n : Nat} {ct ln bh : Int} {B ks ps ns : Nat → Int} (H : BY B) (hn : n ≤ 300) (HS : STR h) (H51 : h.2.2 51 = .inr (6, [xR 52, xR 53, xR 54, xI ct, bs, xI ln, xI bh])) (H70 : h.2.2 70 = ar 300 B) (H52 : h.2.2 52 = ar 301 ks) (H53 : h.2.2 53 = ar 301 ps) (H54 : h.2.2 54 = ar 301 ns) (k : ∀ h2, TOKH h2 B n → Fr [51, 52, 53, 54] h h2 → Q [] h2) : hc_wp (d + 7) mX6_scan 0 [xR 51, xR 70, xI (n : Int), none] [] h Q := by
  refine wp_go rfl rfl ?_
  refine wp_go rfl rfl ?_
  refine e_put (fs' := [xR 52, xR 53, xR 54, xI ct, xR 70, xI ln, xI bh]) rfl H51 rfl rfl ?_
  refine wp_go rfl rfl ?_
  refine wp_go rfl rfl ?_
  refine wp_go rfl rfl ?_
  refine wp_go rfl rfl ?_
  show hc_wp (d + 7) mX6_scan 13 [xR 51, xR 70, xI (n : Int), none] [xI (if (300 : Int) < (n : Int) then (300 : Int) else (n : Int)), xR 51] _ Q
  rw [if_neg (show ¬ (300 : Int) < (n : Int) by omega)]
  refine e_put (fs' := [xR 52, xR 53, xR 54, xI ct, xR 70, xI (n : Int), xI bh]) rfl rfl rfl rfl ?_
  refine wp_go rfl rfl ?_
  refine wp_go rfl rfl ?_
  refine e_put (fs' := [xR 52, xR 53, xR 54, xI ct, xR 70, xI (n : Int), xI 0]) rfl rfl rfl rfl ?_
  refine wp_go rfl rfl ?_
  refine wp_go rfl rfl ?_
  refine e_put (fs' := [xR 52, xR 53, xR 54, xI 0, xR 70, xI (n : Int), xI 0]) rfl rfl rfl rfl ?_
  refine wp_go rfl rfl ?_
  refine e_istn (L' := [xR 51, xR 70, xI (n : Int), xI 0]) rfl rfl rfl ?_
  refine l_scan (d := d) H hn k 302 0 _ ks ps ns (by omega) (fun z => absurd rfl z) (STR.fr HS ((((Fr.rf (l := [51, 52, 53, 54])).wr rfl).wr rfl).wr rfl |>.wr rfl) (by decide)) rfl H70 H52 H53 H54 (fun j hj => absurd hj (by omega)) (fun j hj => absurd hj (by omega)) ((((Fr.rf.wr rfl).wr rfl).wr rfl).wr rfl) trivial
