/-! the class: Netting, fifth part: the lowest set -/
def okp (sm mo : Nat → Int) (op s : Nat) : Bool := decide (dif s op = 0) && Nat.testBit s (tz op) && decide (sm s = 0) && decide (mo (dif op s) + 1 = mo op)
def lwsF (sm mo : Nat → Int) (op : Nat) : Nat → Nat → Nat
  | 0, _ => op
  | g + 1, s => if s < op then (if okp sm mo op s = true then s else lwsF sm mo op g (s + 1)) else op
theorem tz_lt {s : Nat} : tz s < 8 := by have := tz_bd s; omega
set_option maxRecDepth 100000 in
theorem l_ls {d : Nat} {h : hc_H} {Q : List hc_V → hc_H → Prop} {op : Nat} {pn : Int} {sm mo : Nat → Int} (ho : op < 256) (H58 : h.2.2 58 = net pn) (H60 : h.2.2 60 = ar 256 sm) (H61 : h.2.2 61 = ar 256 mo) (HC : ∀ t, t ≤ op → -1000000000 ≤ mo t ∧ mo t ≤ 1000000000) : ∀ (g s : Nat) (l4 : hc_V), s < 256 + 1 → op < s + g → Q [xI ((lwsF sm mo op g s : Nat) : Int)] h → hc_wp d mX2_lowestSet 7 [xR 58, xI (op : Int), xI ((2 ^ tz op : Nat) : Int), xI (s : Int), l4] [] h Q := by
  intro g
  induction g with
  | zero =>
    intro s l4 hs hg k
    rw [lwsF] at k
    refine wp_go rfl rfl ?_
    refine wp_go rfl rfl ?_
    refine e_cge rfl (fun c9 => ?_) (fun c9 => absurd (show (op : Int) ≤ (s : Int) by omega) c9)
    refine wp_go rfl rfl ?_
    exact wp_ret rfl rfl k
  | succ g ih =>
    intro s l4 hs hg k
    refine wp_go rfl rfl ?_
    refine wp_go rfl rfl ?_
    refine e_cge rfl (fun c9 => ?_) (fun c9 => ?_)
    · skip
      refine wp_go rfl rfl ?_
      refine wp_ret rfl rfl ?_
      rw [lwsF] at k
      first | (rw [if_neg (by omega)] at k; exact k) | exact absurd c16 (by omega)
    · skip
      refine wp_go rfl rfl ?_
      refine wp_go rfl rfl ?_
      refine e_cge rfl (fun c16 => ?_) (fun c16 => ?_)
      · skip
        refine wp_go rfl rfl ?_
        refine wp_ret rfl rfl ?_
        rw [lwsF] at k
        first | (rw [if_neg (by omega)] at k; exact k) | exact absurd c16 (by omega)
      · skip
        refine wp_go rfl rfl ?_
        refine wp_go rfl rfl ?_
        refine wp_go rfl rfl ?_
        refine wp_go rfl rfl ?_
        refine wp_go rfl rfl ?_
        rw [b_dif (show s < 256 by omega) ho]
        refine e_ifne rfl (fun c24 => ?_) (fun c24 => ?_)
        · skip
          refine wp_go rfl rfl ?_
          refine e_ist (L' := [xR 58, xI (op : Int), xI ((2 ^ tz op : Nat) : Int), xI (s : Int), xI 0]) rfl rfl rfl ?_
          refine wp_go rfl rfl ?_
          refine wp_go rfl rfl ?_
          have hn : okp sm mo op s = false := by
            unfold okp
            rw [decide_eq_false (fun z : dif s op = 0 => c24 (by omega))]; rfl
          rw [lwsF, if_pos (show s < op by omega), if_neg (by rw [hn]; decide)] at k
          refine e_inc (L' := [xR 58, xI (op : Int), xI ((2 ^ tz op : Nat) : Int), xI ((s : Int) + 1), _]) rfl rfl (by omega) rfl ?_
          refine wp_go rfl rfl ?_
          exact ih (s + 1) _ (by omega) (by omega) k
        · skip
          refine wp_go rfl rfl ?_
          refine wp_go rfl rfl ?_
          refine wp_go rfl rfl ?_
          rw [b_at (show s < 256 by omega) tz_lt]
          refine e_ifeq rfl (fun c30 => ?_) (fun c30 => ?_)
          · skip
            refine wp_go rfl rfl ?_
            refine e_ist (L' := [xR 58, xI (op : Int), xI ((2 ^ tz op : Nat) : Int), xI (s : Int), xI 0]) rfl rfl rfl ?_
            refine wp_go rfl rfl ?_
            refine wp_go rfl rfl ?_
            have hn : okp sm mo op s = false := by
              unfold okp
              rw [show Nat.testBit s (tz op) = false by cases z : Nat.testBit s (tz op) with | false => rfl | true => rw [if_pos z] at c30; have := Nat.one_le_two_pow (n := tz op); omega]; simp
            rw [lwsF, if_pos (show s < op by omega), if_neg (by rw [hn]; decide)] at k
            refine e_inc (L' := [xR 58, xI (op : Int), xI ((2 ^ tz op : Nat) : Int), xI ((s : Int) + 1), _]) rfl rfl (by omega) rfl ?_
            refine wp_go rfl rfl ?_
            exact ih (s + 1) _ (by omega) (by omega) k
          · skip
            refine wp_go rfl rfl ?_
            refine wp_go rfl rfl ?_
            refine e_ist (L' := [xR 58, xI (op : Int), xI ((2 ^ tz op : Nat) : Int), xI (s : Int), xI 1]) rfl rfl rfl ?_
            refine wp_go rfl rfl ?_
            refine wp_go rfl rfl ?_
            refine wp_go rfl rfl ?_
            refine e_get rfl H58 rfl rfl ?_
            refine wp_go rfl rfl ?_
            refine e_aldE (p := s) rfl H60 rfl ⟨by omega, by omega⟩ ?_
            refine e_ifne rfl (fun c51 => ?_) (fun c51 => ?_)
            · skip
              have hn : okp sm mo op s = false := by
                unfold okp
                rw [decide_eq_false (fun z : sm s = 0 => c51 z)]; simp
              rw [lwsF, if_pos (show s < op by omega), if_neg (by rw [hn]; decide)] at k
              refine e_inc (L' := [xR 58, xI (op : Int), xI ((2 ^ tz op : Nat) : Int), xI ((s : Int) + 1), _]) rfl rfl (by omega) rfl ?_
              refine wp_go rfl rfl ?_
              exact ih (s + 1) _ (by omega) (by omega) k
            · skip
              refine wp_go rfl rfl ?_
              refine e_get rfl H58 rfl rfl ?_
              refine wp_go rfl rfl ?_
              refine wp_go rfl rfl ?_
              refine wp_go rfl rfl ?_
              refine wp_go rfl rfl ?_
              refine wp_go rfl rfl ?_
              rw [b_dif ho (show s < 256 by omega)]
              have hd := dif_lt (t := s) ho
              have hd2 := dif_le (s := op) (t := s)
              have hb1 := HC (dif op s) hd2
              have hb2 := HC op (Nat.le_refl op)
              refine e_aldE (p := (dif op s)) rfl H61 rfl ⟨by omega, by omega⟩ ?_
              refine wp_go rfl rfl ?_
              refine e_iadd rfl (by omega) ?_
              refine wp_go rfl rfl ?_
              refine e_get rfl H58 rfl rfl ?_
              refine wp_go rfl rfl ?_
              refine e_aldE (p := op) rfl H61 rfl ⟨by omega, by omega⟩ ?_
              refine e_cne rfl (fun c72 => ?_) (fun c72 => ?_)
              · skip
                have hn : okp sm mo op s = false := by
                  unfold okp
                  rw [decide_eq_false (fun z : mo (dif op s) + 1 = mo op => c72 z)]; simp
                rw [lwsF, if_pos (show s < op by omega), if_neg (by rw [hn]; decide)] at k
                refine e_inc (L' := [xR 58, xI (op : Int), xI ((2 ^ tz op : Nat) : Int), xI ((s : Int) + 1), _]) rfl rfl (by omega) rfl ?_
                refine wp_go rfl rfl ?_
                exact ih (s + 1) _ (by omega) (by omega) k
              · skip
                refine wp_go rfl rfl ?_
                refine wp_ret rfl rfl ?_
                rw [lwsF, if_pos (show s < op by omega), if_pos ?_] at k
                · exact k
                · unfold okp
                  rw [decide_eq_true (show dif s op = 0 by omega), decide_eq_true (show sm s = 0 by omega), decide_eq_true (show mo (dif op s) + 1 = mo op by omega)]
                  simp
                  cases z : Nat.testBit s (tz op) with
                  | true => rfl
                  | false => rw [z] at c30; exact absurd rfl c30
set_option maxRecDepth 100000 in
theorem c_lowestSet {d : Nat} {h : hc_H} {Q : List hc_V → hc_H → Prop} {op : Nat} {pn : Int} {sm mo : Nat → Int} (h1 : 1 ≤ op) (ho : op < 256) (H58 : h.2.2 58 = net pn) (H60 : h.2.2 60 = ar 256 sm) (H61 : h.2.2 61 = ar 256 mo) (HC : ∀ t, t ≤ op → -1000000000 ≤ mo t ∧ mo t ≤ 1000000000) (k : Q [xI ((lwsF sm mo op 256 (2 ^ tz op) : Nat) : Int)] h) : hc_wp d mX2_lowestSet 0 [xR 58, xI (op : Int), none, none, none] [] h Q := by
  refine wp_go rfl rfl ?_
  refine wp_go rfl rfl ?_
  refine e_ineg rfl (by omega) ?_
  refine wp_go rfl rfl ?_
  rw [b_low' ⟨op, ho⟩ h1]
  dsimp only
  have hz := tz_pow' ⟨op, ho⟩ h1
  dsimp only at hz
  refine e_istn (L' := [xR 58, xI (op : Int), xI ((2 ^ tz op : Nat) : Int), none, none]) rfl rfl rfl ?_
  refine wp_go rfl rfl ?_
  refine e_istn (L' := [xR 58, xI (op : Int), xI ((2 ^ tz op : Nat) : Int), xI ((2 ^ tz op : Nat) : Int), none]) rfl rfl rfl ?_
  have hz1 : 1 ≤ 2 ^ tz op := Nat.one_le_two_pow
  exact l_ls ho H58 H60 H61 HC 256 (2 ^ tz op) _ (by omega) (by omega) k
def blv (dt ow am : Nat → Int) (cn nf : Nat) (p : Nat) : Int := if p < nf then bal dt ow am (p : Int) cn else 0
def opm (bl : Nat → Int) : Nat → Nat
  | 0 => 0
  | p + 1 => if bl p = 0 then opm bl p else sbt (opm bl p) p
theorem sbt_bit' : ∀ s : Fin 256, ∀ p : Fin 8, ∀ i : Fin 8, Nat.testBit (sbt s.1 p.1) i.1 = (Nat.testBit s.1 i.1 || decide (i.1 = p.1)) := by decide +kernel
theorem opm_lt {bl : Nat → Int} : ∀ n : Nat, n ≤ 8 → opm bl n < 256
  | 0, _ => Nat.lt_of_lt_of_le Nat.zero_lt_one (by decide)
  | n + 1, h => by
    rw [opm]
    split
    · exact opm_lt n (by omega)
    · exact (clr_lt (opm_lt n (by omega)) (show n < 8 by omega)).2.2
theorem opm_bit {bl : Nat → Int} : ∀ n : Nat, n ≤ 8 → ∀ i, i < 8 → (Nat.testBit (opm bl n) i = true ↔ i < n ∧ bl i ≠ 0)
  | 0, _, i, _ => by simp [opm]
  | n + 1, h, i, hi => by
    have ih := opm_bit (bl := bl) n (by omega) i hi
    have hl := opm_lt (bl := bl) n (by omega)
    rw [opm]
    by_cases c : bl n = 0
    · rw [if_pos c, ih]
      constructor
      · intro z; exact ⟨by omega, z.2⟩
      · intro z
        refine ⟨?_, z.2⟩
        rcases Nat.lt_or_ge i n with q | q
        · exact q
        · have : i = n := by omega
          rw [this] at z
          exact absurd c z.2
    · rw [if_neg c, sbt_bit' ⟨_, hl⟩ ⟨n, by omega⟩ ⟨i, hi⟩]
      dsimp only
      rw [Bool.or_eq_true, ih, decide_eq_true_iff]
      constructor
      · intro z
        rcases z with z | z
        · exact ⟨by omega, z.2⟩
        · rw [z]; exact ⟨by omega, c⟩
      · intro z
        rcases Nat.lt_or_ge i n with q | q
        · exact Or.inl ⟨q, z.2⟩
        · exact Or.inr (by omega)
def nlp (sm mo bl : Nat → Int) : Nat → Nat → nst → nst
  | 0, _, n => n
  | g + 1, op, n => if op = 0 then n else nlp sm mo bl g (dif op (lwsF sm mo op 256 (2 ^ tz op))) (pal bl (lwsF sm mo op 256 (2 ^ tz op)) n 8).2.2
theorem lws_lt {sm mo : Nat → Int} {op : Nat} : ∀ (g s : Nat), lwsF sm mo op g s ≤ op
  | 0, s => by rw [lwsF]; exact Nat.le_refl op
  | g + 1, s => by
    rw [lwsF]
    split
    · split
      · omega
      · exact lws_lt g (s + 1)
    · exact Nat.le_refl op
set_option maxRecDepth 100000 in
theorem l_nw1 {d : Nat} {h0 : hc_H} {Q : List hc_V → hc_H → Prop} {nf cn : Nat} {pn : Int} {bl0 dt ow am : Nat → Int} (hcn : cn ≤ 20) (ham : ∀ j, j < cn → 0 ≤ am j ∧ am j ≤ 720720) (k : ∀ h2 i2 l52, h2.2.2 58 = net pn → h2.2.2 59 = ar 8 (cc 8 (blv dt ow am cn nf) bl0) → h2.2.2 32 = dbt (cn : Int) → Fr [58, 59] h0 h2 → hc_wp (d + 3) mX2_work 63 [xR 58, xR 32, xI (nf : Int), xI ((opm (blv dt ow am cn nf) 8 : Nat) : Int), i2, l52] [] h2 Q) : ∀ (g p : Nat) (l5 : hc_V) (h : hc_H), (p ≤ 8 ∧ 8 < p + g) → h.2.2 58 = net pn → h.2.2 59 = ar 8 (cc p (blv dt ow am cn nf) bl0) → h.2.2 32 = dbt (cn : Int) → h.2.2 33 = ar 20 dt → h.2.2 34 = ar 20 ow → h.2.2 35 = ar 20 am → Fr [58, 59] h0 h → True → hc_wp (d + 3) mX2_work 10 [xR 58, xR 32, xI (nf : Int), xI ((opm (blv dt ow am cn nf) p : Nat) : Int), xI (p : Int), l5] [] h Q := by
  intro g
  induction g with
  | zero =>
    intro p l5 h hn
    exact absurd hn (by omega)
  | succ g ih =>
    intro p l5 h hn H58 H59 H32 H33 H34 H35 HF hn2
    refine wp_go rfl rfl ?_
    refine wp_go rfl rfl ?_
    refine e_cge rfl (fun c14 => ?_) (fun c14 => ?_)
    · skip
      rw [show p = 8 by omega] at H59 ⊢
      exact k h _ _ H58 H59 H32 HF
    · skip
      refine wp_go rfl rfl ?_
      refine e_get rfl H58 rfl rfl ?_
      refine wp_go rfl rfl ?_
      refine wp_go rfl rfl ?_
      refine wp_go rfl rfl ?_
      refine e_cge rfl (fun c26 => ?_) (fun c26 => ?_)
      · skip
        refine wp_go rfl rfl ?_
        rw [show (0 : Int) = blv dt ow am cn nf p from (if_neg (show ¬ p < nf by omega)).symm]
        refine e_iastE (p := p) rfl H59 (by omega) ?_
        rw [cc_u]
        refine wp_go rfl rfl ?_
        refine e_get rfl H58 rfl rfl ?_
        refine wp_go rfl rfl ?_
        refine e_aldE (p := p) rfl rfl rfl ⟨by omega, by omega⟩ ?_
        rw [show cc (p + 1) (blv dt ow am cn nf) bl0 p = blv dt ow am cn nf p from if_pos (Nat.lt_succ_self p)]
        refine e_ifeq rfl (fun c47 => ?_) (fun c47 => ?_)
        · skip
          refine e_inc (L' := [xR 58, xR 32, xI (nf : Int), xI ((opm (blv dt ow am cn nf) p : Nat) : Int), xI ((p : Int) + 1), l5]) rfl rfl (by omega) rfl ?_
          refine wp_go rfl rfl ?_
          have e1 : opm (blv dt ow am cn nf) (p + 1) = opm (blv dt ow am cn nf) p := by rw [opm, if_pos c47]
          rw [← e1]
          exact ih (p + 1) _ _ (by omega) H58 rfl H32 H33 H34 H35 (HF.wr rfl) trivial
        · skip
          refine wp_go rfl rfl ?_
          refine wp_go rfl rfl ?_
          refine wp_go rfl rfl ?_
          refine wp_go rfl rfl ?_
          refine wp_go rfl rfl ?_
          rw [b_sbt (opm_lt p (by omega)) (by omega)]
          refine e_istn (L' := [xR 58, xR 32, xI (nf : Int), xI ((sbt (opm (blv dt ow am cn nf) p) p : Nat) : Int), xI (p : Int), l5]) rfl rfl rfl ?_
          refine e_inc (L' := [xR 58, xR 32, xI (nf : Int), xI ((sbt (opm (blv dt ow am cn nf) p) p : Nat) : Int), xI ((p : Int) + 1), l5]) rfl rfl (by omega) rfl ?_
          refine wp_go rfl rfl ?_
          have e1 : opm (blv dt ow am cn nf) (p + 1) = sbt (opm (blv dt ow am cn nf) p) p := by rw [opm, if_neg c47]
          rw [← e1]
          exact ih (p + 1) _ _ (by omega) H58 rfl H32 H33 H34 H35 (HF.wr rfl) trivial
      · skip
        refine wp_go rfl rfl ?_
        refine wp_go rfl rfl ?_
        refine wp_cv rfl rfl rfl H32 rfl rfl rfl ?_
        refine c_balance H32 H33 H34 H35 hcn ham ?_
        have hbv : bal dt ow am (p : Int) cn = blv dt ow am cn nf p := (if_pos (show p < nf by omega)).symm
        rw [hbv]
        refine wp_go rfl rfl ?_
        refine e_iastE (p := p) rfl H59 (by omega) ?_
        rw [cc_u]
        refine wp_go rfl rfl ?_
        refine e_get rfl H58 rfl rfl ?_
        refine wp_go rfl rfl ?_
        refine e_aldE (p := p) rfl rfl rfl ⟨by omega, by omega⟩ ?_
        rw [show cc (p + 1) (blv dt ow am cn nf) bl0 p = blv dt ow am cn nf p from if_pos (Nat.lt_succ_self p)]
        refine e_ifeq rfl (fun c47 => ?_) (fun c47 => ?_)
        · skip
          refine e_inc (L' := [xR 58, xR 32, xI (nf : Int), xI ((opm (blv dt ow am cn nf) p : Nat) : Int), xI ((p : Int) + 1), l5]) rfl rfl (by omega) rfl ?_
          refine wp_go rfl rfl ?_
          have e1 : opm (blv dt ow am cn nf) (p + 1) = opm (blv dt ow am cn nf) p := by rw [opm, if_pos c47]
          rw [← e1]
          exact ih (p + 1) _ _ (by omega) H58 rfl H32 H33 H34 H35 (HF.wr rfl) trivial
        · skip
          refine wp_go rfl rfl ?_
          refine wp_go rfl rfl ?_
          refine wp_go rfl rfl ?_
          refine wp_go rfl rfl ?_
          refine wp_go rfl rfl ?_
          rw [b_sbt (opm_lt p (by omega)) (by omega)]
          refine e_istn (L' := [xR 58, xR 32, xI (nf : Int), xI ((sbt (opm (blv dt ow am cn nf) p) p : Nat) : Int), xI (p : Int), l5]) rfl rfl rfl ?_
          refine e_inc (L' := [xR 58, xR 32, xI (nf : Int), xI ((sbt (opm (blv dt ow am cn nf) p) p : Nat) : Int), xI ((p : Int) + 1), l5]) rfl rfl (by omega) rfl ?_
          refine wp_go rfl rfl ?_
          have e1 : opm (blv dt ow am cn nf) (p + 1) = sbt (opm (blv dt ow am cn nf) p) p := by rw [opm, if_neg c47]
          rw [← e1]
          exact ih (p + 1) _ _ (by omega) H58 rfl H32 H33 H34 H35 (HF.wr rfl) trivial
set_option maxRecDepth 100000 in
theorem l_nw2 {d : Nat} {h0 : hc_H} {Q : List hc_V → hc_H → Prop} {nf op0 : Nat} {sm mo bl : Nat → Int} (HB : ∀ j, j < 8 → -14414400 ≤ bl j ∧ bl j ≤ 14414400) (ho : op0 < 256) (HC : ∀ t, t ≤ op0 → -1000000000 ≤ mo t ∧ mo t ≤ 1000000000) : ∀ (g op : Nat) (n : nst) (i : Int) (l5 : hc_V) (h : hc_H), (i + (g : Int) = 8 ∧ 0 ≤ i) → op ≤ op0 → (0 ≤ n.1 ∧ n.1 ≤ 8) → NH h n → h.2.2 59 = ar 8 bl → h.2.2 60 = ar 256 sm → h.2.2 61 = ar 256 mo → Fr [58, 59, 60, 61, 62, 63, 64] h0 h → (∀ h2, NH h2 (nlp sm mo bl g op n) → (0 ≤ (nlp sm mo bl g op n).1 ∧ (nlp sm mo bl g op n).1 ≤ 8) → Fr [58, 59, 60, 61, 62, 63, 64] h0 h2 → Q [] h2) → True → hc_wp (d + 3) mX2_work 71 [xR 58, xR 32, xI (nf : Int), xI (op : Int), xI i, l5] [] h Q := by
  intro g
  induction g with
  | zero =>
    intro op n i l5 h hi ho hnb H H59 H60 H61 HF k hT
    refine wp_go rfl rfl ?_
    refine wp_go rfl rfl ?_
    refine e_cge rfl (fun c75 => ?_) (fun c75 => absurd (show (8 : Int) ≤ i by omega) c75)
    exact wp_ret rfl rfl (k h H hnb HF)
  | succ g ih =>
    intro op n i l5 h hi hop hnb H H59 H60 H61 HF k hT
    refine wp_go rfl rfl ?_
    refine wp_go rfl rfl ?_
    refine e_cge rfl (fun c75 => ?_) (fun c75 => ?_)
    · skip
      refine wp_ret rfl rfl ?_
      first | (rw [nlp, if_pos (show op = 0 by omega)] at k; exact k h H hnb HF) | exact absurd c75 (by omega)
    · skip
      refine wp_go rfl rfl ?_
      refine e_ifeq rfl (fun c79 => ?_) (fun c79 => ?_)
      · skip
        refine wp_ret rfl rfl ?_
        first | (rw [nlp, if_pos (show op = 0 by omega)] at k; exact k h H hnb HF) | exact absurd c75 (by omega)
      · skip
        refine wp_go rfl rfl ?_
        refine wp_go rfl rfl ?_
        refine wp_cv rfl rfl rfl H.1 rfl rfl rfl ?_
        refine c_lowestSet (by omega) (by omega) H.1 H60 H61 (fun t ht => HC t (by omega)) ?_
        have hsl : lwsF sm mo op 256 (2 ^ tz op) ≤ op := lws_lt 256 (2 ^ tz op)
        obtain ⟨s, hs⟩ : ∃ z : Nat, z = lwsF sm mo op 256 (2 ^ tz op) := ⟨_, rfl⟩
        rw [← hs] at hsl
        rw [← hs]
        refine e_ist (L' := [xR 58, xR 32, xI (nf : Int), xI (op : Int), xI i, xI (s : Int)]) rfl rfl rfl ?_
        refine wp_go rfl rfl ?_
        refine wp_go rfl rfl ?_
        refine wp_cv rfl rfl rfl H.1 rfl rfl rfl ?_
        refine c_payAlong (d := d) (by omega) HB H hnb H59 (fun h2 A A2 A3 F => ?_)
        refine wp_go rfl rfl ?_
        refine wp_go rfl rfl ?_
        refine wp_go rfl rfl ?_
        refine wp_go rfl rfl ?_
        refine wp_go rfl rfl ?_
        rw [b_dif (show op < 256 by omega) (show s < 256 by omega)]
        refine e_istn (L' := [xR 58, xR 32, xI (nf : Int), xI ((dif op s : Nat) : Int), xI i, xI (s : Int)]) rfl rfl rfl ?_
        refine e_inc (L' := [xR 58, xR 32, xI (nf : Int), xI ((dif op s : Nat) : Int), xI (i + 1), xI (s : Int)]) rfl rfl (by omega) rfl ?_
        refine wp_go rfl rfl ?_
        rw [nlp, if_neg (show ¬ op = 0 by omega), ← hs] at k
        have hd := dif_le (s := op) (t := s)
        exact ih (dif op s) (pal bl s n 8).2.2 _ _ _ (by omega) (by omega) A2 A A3 ((F.2.2 60 rfl).trans H60) ((F.2.2 61 rfl).trans H61) (HF.tr (Fr.mono F (nin_sub rfl)) (fun _ z => z)) k trivial
set_option maxRecDepth 100000 in
theorem c_nwork {d : Nat} {h : hc_H} {Q : List hc_V → hc_H → Prop} {nf cn : Nat} {pn : Int} {bl0 sm mo py pe am0 dt ow am : Nat → Int} (hcn : cn ≤ 20) (ham : ∀ j, j < cn → 0 ≤ am j ∧ am j ≤ 720720) (H58 : h.2.2 58 = net pn) (H59 : h.2.2 59 = ar 8 bl0) (H60 : h.2.2 60 = ar 256 sm) (H61 : h.2.2 61 = ar 256 mo) (H62 : h.2.2 62 = ar 8 py) (H63 : h.2.2 63 = ar 8 pe) (H64 : h.2.2 64 = ar 8 am0) (H32 : h.2.2 32 = dbt (cn : Int)) (H33 : h.2.2 33 = ar 20 dt) (H34 : h.2.2 34 = ar 20 ow) (H35 : h.2.2 35 = ar 20 am) (k : ∀ h2, NH h2 (nlp (cit (cc 8 (blv dt ow am cn nf) bl0) sm mo (opm (blv dt ow am cn nf) 8)).1 (cit (cc 8 (blv dt ow am cn nf) bl0) sm mo (opm (blv dt ow am cn nf) 8)).2 (cc 8 (blv dt ow am cn nf) bl0) 8 (opm (blv dt ow am cn nf) 8) (0, py, pe, am0)) → (0 ≤ (nlp (cit (cc 8 (blv dt ow am cn nf) bl0) sm mo (opm (blv dt ow am cn nf) 8)).1 (cit (cc 8 (blv dt ow am cn nf) bl0) sm mo (opm (blv dt ow am cn nf) 8)).2 (cc 8 (blv dt ow am cn nf) bl0) 8 (opm (blv dt ow am cn nf) 8) (0, py, pe, am0)).1 ∧ (nlp (cit (cc 8 (blv dt ow am cn nf) bl0) sm mo (opm (blv dt ow am cn nf) 8)).1 (cit (cc 8 (blv dt ow am cn nf) bl0) sm mo (opm (blv dt ow am cn nf) 8)).2 (cc 8 (blv dt ow am cn nf) bl0) 8 (opm (blv dt ow am cn nf) 8) (0, py, pe, am0)).1 ≤ 8) → Fr [58, 59, 60, 61, 62, 63, 64] h h2 → Q [] h2) : hc_wp (d + 3) mX2_work 0 [xR 58, xR 32, xI (nf : Int), none, none, none] [] h Q := by
  refine wp_go rfl rfl ?_
  refine wp_go rfl rfl ?_
  refine e_put (fs' := [xR 59, xR 60, xR 61, xR 62, xR 63, xR 64, xI 0]) rfl H58 rfl rfl ?_
  refine wp_go rfl rfl ?_
  refine e_istn (L' := [xR 58, xR 32, xI (nf : Int), xI 0, none, none]) rfl rfl rfl ?_
  refine wp_go rfl rfl ?_
  refine e_ist (L' := [xR 58, xR 32, xI (nf : Int), xI 0, xI 0, none]) rfl rfl rfl ?_
  have hol : opm (blv dt ow am cn nf) 8 < 256 := opm_lt 8 (by omega)
  have HBc : ∀ j, j < 8 → -14414400 ≤ cc 8 (blv dt ow am cn nf) bl0 j ∧ cc 8 (blv dt ow am cn nf) bl0 j ≤ 14414400 := by
    intro j hj
    rw [show cc 8 (blv dt ow am cn nf) bl0 j = blv dt ow am cn nf j from if_pos hj]
    have hb := bal_bd (dt := dt) (ow := ow) (am := am) (who := (j : Int)) cn ham
    unfold blv
    split <;> omega
  refine l_nw1 (d := d) (nf := nf) (pn := 0) (bl0 := bl0) (dt := dt) (ow := ow) (am := am) hcn ham (fun h1 i2 l52 A1 A2 A3 F1 => ?_) 9 0 _ _ (by omega) rfl (by rw [cc_0]; exact H59) H32 H33 H34 H35 (Fr.rf.wr rfl) trivial
  refine wp_go rfl rfl ?_
  refine wp_go rfl rfl ?_
  refine wp_cv rfl rfl rfl A1 rfl rfl rfl ?_
  refine c_countSets (d := d + 1) hol HBc A1 A2 ((F1.2.2 60 rfl).trans H60) ((F1.2.2 61 rfl).trans H61) (fun h2 C1 C2 C3 C4 C5 F2 => ?_)
  have B1 : h1.2.2 62 = ar 8 py := (F1.2.2 62 rfl).trans H62
  have B2 : h1.2.2 63 = ar 8 pe := (F1.2.2 63 rfl).trans H63
  have B3 : h1.2.2 64 = ar 8 am0 := (F1.2.2 64 rfl).trans H64
  have G62 : h2.2.2 62 = ar 8 py := (F2.2.2 62 rfl).trans B1
  have G63 : h2.2.2 63 = ar 8 pe := (F2.2.2 63 rfl).trans B2
  have G64 : h2.2.2 64 = ar 8 am0 := (F2.2.2 64 rfl).trans B3
  refine wp_go rfl rfl ?_
  refine e_ist (L' := [xR 58, xR 32, xI (nf : Int), xI ((opm (blv dt ow am cn nf) 8 : Nat) : Int), xI 0, l52]) rfl rfl rfl ?_
  refine l_nw2 (nf := nf) (sm := (cit (cc 8 (blv dt ow am cn nf) bl0) sm mo (opm (blv dt ow am cn nf) 8)).1) HBc hol (fun t ht => ?_) 8 _ (0, py, pe, am0) 0 _ h2 (by omega) (Nat.le_refl _) (by dsimp only; omega) ⟨C1, G62, G63, G64⟩ C2 C3 C4 ((Fr.mono F1 (nin_sub rfl)).tr (Fr.mono F2 (nin_sub rfl)) (fun _ z => z)) k trivial
  have := C5 t (by omega)
  have hp := pcn_8' ⟨t, by omega⟩
  dsimp only at hp
  omega
