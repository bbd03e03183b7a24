/-! the class: Reader, third part: sums -/
theorem sP_0 {K N : Nat → Int} {law : Int} {f o i : Nat} {v : ef} : sP K N law (f + 1) 0 o v i = (if K i = 3 then (if N i ≤ 9999 then sO (i + 1) (cnv (N i)) else sF 2 i) else if K i = 50 then (if 8 ≤ o then sF 3 i else sb (sP K N law f 2 (o + 1) v (i + 1)) (fun j w => if K j = 51 then sO (j + 1) w else sF 1 j)) else if K i = 47 then (if 8 ≤ o then sF 3 i else sb (sP K N law f 0 (o + 1) v (i + 1)) (fun j w => sO j (ngv w))) else if K i = 18 then (if 8 ≤ o then sF 3 i else sb (sP K N law f 5 (o + 1) v (i + 1)) (fun j q => if K j = 53 then sb (sP K N law f 2 (o + 1) v (j + 1)) (fun j2 x => if K j2 = 54 then sb (sP K N law f 2 (o + 1) v (j2 + 1)) (fun j3 y => if K j3 = 19 then sO (j3 + 1) (slv q x y) else sF 1 j3) else sF 1 j2) else sF 1 j)) else if 23 ≤ K i ∧ K i ≤ 29 then (if nok law (K i) = true then sO (i + 1) (nmv (K i)) else sF 5 i) else sF 1 i) := rfl
theorem sP_1 {K N : Nat → Int} {law : Int} {f o i : Nat} {v : ef} : sP K N law (f + 1) 1 o v i = (if 48 ≤ K i ∧ K i ≤ 49 then sb (sP K N law f 0 o v (i + 1)) (fun j w => sP K N law f 1 o (op2 (K i) v w) j) else sO i v) := rfl
theorem sP_2 {K N : Nat → Int} {law : Int} {f o i : Nat} {v : ef} : sP K N law (f + 1) 2 o v i = (sb (sP K N law f 3 o v i) (fun j w => sP K N law f 4 o w j)) := rfl
theorem sP_3 {K N : Nat → Int} {law : Int} {f o i : Nat} {v : ef} : sP K N law (f + 1) 3 o v i = (sb (sP K N law f 0 o v i) (fun j w => sP K N law f 1 o w j)) := rfl
theorem sP_4 {K N : Nat → Int} {law : Int} {f o i : Nat} {v : ef} : sP K N law (f + 1) 4 o v i = (if 46 ≤ K i ∧ K i ≤ 47 then sb (sP K N law f 3 o v (i + 1)) (fun j w => sP K N law f 4 o (op2 (K i) v w) j) else sO i v) := rfl
theorem sP_5 {K N : Nat → Int} {law : Int} {f o i : Nat} {v : ef} : sP K N law (f + 1) 5 o v i = (sb (sP K N law f 6 o v i) (fun j w => sP K N law f 8 o w j)) := rfl
theorem sP_6 {K N : Nat → Int} {law : Int} {f o i : Nat} {v : ef} : sP K N law (f + 1) 6 o v i = (sb (sP K N law f 7 o v i) (fun j w => sP K N law f 9 o w j)) := rfl
theorem sP_7 {K N : Nat → Int} {law : Int} {f o i : Nat} {v : ef} : sP K N law (f + 1) 7 o v i = (if K i = 22 then (if 8 ≤ o then sF 3 i else sb (sP K N law f 7 (o + 1) v (i + 1)) (fun j w => sO j (ntv w))) else sb (sP K N law f 2 o v i) (fun j w => if 40 ≤ K j ∧ K j ≤ 45 then sb (sP K N law f 2 o v (j + 1)) (fun j2 u => sO j2 (op2 (K j) w u)) else sF 1 j)) := rfl
theorem sP_8 {K N : Nat → Int} {law : Int} {f o i : Nat} {v : ef} : sP K N law (f + 1) 8 o v i = (if K i = 20 then sb (sP K N law f 6 o v (i + 1)) (fun j w => sP K N law f 8 o (op2 20 v w) j) else sO i v) := rfl
theorem sP_9 {K N : Nat → Int} {law : Int} {f o i : Nat} {v : ef} : sP K N law (f + 1) 9 o v i = (if K i = 21 then sb (sP K N law f 7 o v (i + 1)) (fun j w => sP K N law f 9 o (op2 21 v w) j) else sO i v) := rfl
def sCh (K N : Nat → Int) (law : Int) (f o : Nat) (v : ef) (i : Nat) : sR := sb (sP K N law f 5 o v i) (fun j q => if K j = 53 then sb (sP K N law f 2 o v (j + 1)) (fun j2 x => if K j2 = 54 then sb (sP K N law f 2 o v (j2 + 1)) (fun j3 y => if K j3 = 19 then sO (j3 + 1) (slv q x y) else sF 1 j3) else sF 1 j2) else sF 1 j)
theorem sb_some {a : sR} {k : Nat → ef → sR} {r : (Int × Nat) ⊕ (Nat × ef)} (h : sb a k = some r) : ∃ q, a = some q ∧ sb (some q) k = some r := by
  cases a with
  | none => cases h
  | some q => exact ⟨q, rfl, h⟩
def mx (m : Nat) : Nat := match m with
  | 0 => 0
  | 1 => 1
  | 2 => 2
  | 3 => 1
  | 4 => 2
  | 5 => 5
  | 6 => 4
  | 7 => 3
  | 8 => 5
  | _ => 4
def lpm (m : Nat) : Bool := Nat.beq m 1 || Nat.beq m 4 || Nat.beq m 8 || Nat.beq m 9
def bom (m : Nat) : Bool := Nat.ble 5 m
def cgo (m d : Nat) (q c : Int) (l : hc_V) (h : hc_H) (Q : List hc_V → hc_H → Prop) : Prop := match m with
  | 0 => hc_wp d mX3_readOne 0 [xR 55, xI q] [] h Q
  | 1 => hc_wp d mX3_readProduct 7 [xR 55, xI q, xI c, l] [] h Q
  | 2 => hc_wp d mX3_readSum 0 [xR 55, xI q, none, none] [] h Q
  | 3 => hc_wp d mX3_readProduct 0 [xR 55, xI q, none, none] [] h Q
  | 4 => hc_wp d mX3_readSum 7 [xR 55, xI q, xI c, l] [] h Q
  | 5 => hc_wp d mX3_readEither 0 [xR 55, xI q, none] [] h Q
  | 6 => hc_wp d mX3_readBoth 0 [xR 55, xI q, none] [] h Q
  | 7 => hc_wp d mX3_readAsk 0 [xR 55, xI q, none] [] h Q
  | 8 => hc_wp d mX3_readEither 7 [xR 55, xI q, xI c] [] h Q
  | _ => hc_wp d mX3_readBoth 7 [xR 55, xI q, xI c] [] h Q
abbrev cnR : Type := (Int × Nat) ⊕ (Nat × ef)
/-- how a reading goes on -/
def KOK (B : Nat → Int) (n : Nat) (lw : Int) (M : Nat) (bo : Bool) (i wc w0 : Nat) (wd : Nat → Int) (cl co : Int) (tl rb : hc_V) (h : hc_H) (r : cnR) (Q : List hc_V → hc_H → Prop) : Prop :=
  ∀ (j : Nat) (V : ef), r = .inr (j, V) → ∀ (h2 : hc_H) (wc2 : Nat) (wd2 : Nat → Int), h2.2.2 55 = rdo (wc2 : Int) cl co tl rb lw (j : Int) (tK B n j) 0 (-1) → h2.2.2 56 = ar 300 wd2 → i ≤ j ∧ j ≤ 300 ∧ wc2 + i ≤ wc + j ∧ wc ≤ wc2 → (∀ t, t < w0 → wd2 t = wd t) → GC lw wd2 w0 wc2 V M → (bo = true → GB V) → Fr [55, 56] h h2 → Q [] h2
def KF (B : Nat → Int) (n : Nat) (lw : Int) (cl co : Int) (tl rb : hc_V) (h : hc_H) (r : cnR) (Q : List hc_V → hc_H → Prop) : Prop :=
  ∀ (fl : Int) (k : Nat), r = .inl (fl, k) → ∀ h2 : hc_H, RS h2 cl co tl rb lw fl ((tP B n k : Nat) : Int) k → Fr [55, 56] h h2 → Q [] h2
def CON (B : Nat → Int) (n : Nat) (lw : Int) (f m : Nat) : Prop := ∀ (o : Nat) (v : ef) (i : Nat) (r : cnR), sP (tK B n) (tN B n) lw f m o v i = some r → ∀ (d : Nat) (h : hc_H) (Q : List hc_V → hc_H → Prop) (wc w0 : Nat) (wd : Nat → Int) (cl co : Int) (tl rb : hc_V) (c : Int) (l : hc_V), o ≤ 8 → 5 + mx m + 10 * (8 - o) ≤ d → TOKH h B n → h.2.2 55 = rdo (wc : Int) cl co tl rb lw (i : Int) (tK B n i) 0 (-1) → h.2.2 56 = ar 300 wd → wc ≤ i ∧ i ≤ 300 ∧ w0 ≤ wc ∧ 0 ≤ c ∧ c ≤ (i : Int) → (lpm m = true → GC lw wd w0 wc v (1 + mx m + 5 * (8 - o)) ∧ (bom m = true → GB v)) → (lpm m = false → w0 = wc) →
  KOK B n lw (1 + mx m + 5 * (8 - o)) (bom m) i wc w0 wd cl co tl rb h r Q → KF B n lw cl co tl rb h r Q → cgo m d (o : Int) c l h Q
set_option maxRecDepth 100000 in
theorem cn_1 {B : Nat → Int} {n : Nat} {lw : Int} (H : BY B) (hn : n ≤ 300) (hlw : lw = 10 ∨ lw = 11) {f : Nat} (ih : ∀ m, m ≤ 9 → CON B n lw f m) : CON B n lw (f + 1) 1 := by
  intro o v i r hsp d h Q wc w0 wd cl co tl rb c l ho hd HT H55 H56 hb hlp hnl kok kf
  rw [sP_1] at hsp
  have x0 : mx 0 = 0 := rfl
  have x1 : mx 1 = 1 := rfl
  have x2 : mx 2 = 2 := rfl
  have x3 : mx 3 = 1 := rfl
  have x4 : mx 4 = 2 := rfl
  have x5 : mx 5 = 5 := rfl
  have x6 : mx 6 = 4 := rfl
  have x7 : mx 7 = 3 := rfl
  have x8 : mx 8 = 5 := rfl
  have x9 : mx 9 = 4 := rfl
  rw [x1] at hd kok hlp
  obtain ⟨d, rfl⟩ : ∃ z, d = z + 6 := ⟨d - 6, by omega⟩
  show hc_wp _ mX3_readProduct 7 [xR 55, xI (o : Int), xI c, l] [] h Q
  refine wp_go rfl rfl ?_
  refine wp_go rfl rfl ?_
  refine e_cge rfl (fun c11 => ?_) (fun c11 => ?_)
  · skip
    refine wp_ret rfl rfl ?_
    rw [if_neg (by have := tK_big H hn (show 300 ≤ i by omega); omega)] at hsp
    have hg := hlp rfl
    obtain rfl := Option.some.inj hsp
    exact kok _ _ rfl _ (wc) wd H55 H56 (by omega) (fun t _ => rfl) hg.1 hg.2 Fr.rf
  · skip
    refine wp_go rfl rfl ?_
    refine e_get rfl H55 rfl rfl ?_
    refine wp_go rfl rfl ?_
    refine wp_go rfl rfl ?_
    refine wp_call rfl rfl rfl rfl ?_
    refine c_isWithin  (fun q22 => ?_) (fun q22 => ?_)
    · skip
      refine wp_go rfl rfl ?_
      rw [if_pos q22] at hsp
      have hlt := tK_lt H hn (show tK B n i ≠ 0 by omega)
      refine wp_go rfl rfl ?_
      refine e_get rfl H55 rfl rfl ?_
      refine e_istn (L' := [xR 55, xI (o : Int), xI c, xI (tK B n (i))]) rfl rfl rfl ?_
      refine wp_go rfl rfl ?_
      refine wp_cv rfl rfl rfl H55 rfl rfl rfl ?_
      refine c_advL H hn HT (by omega) H55 ?_
      refine wp_go rfl rfl ?_
      refine wp_go rfl rfl ?_
      refine wp_cv rfl rfl rfl rfl rfl rfl rfl ?_
      obtain ⟨q101, hq101, hsp⟩ := sb_some hsp
      refine ih 0 (by decide) (o) v (i + 1) q101 hq101 _ _ _ (wc) (wc) wd cl co tl rb 0 none (by omega) (by omega) HT.w5 rfl H56 (by omega) (fun z => absurd z (by decide)) (fun _ => rfl) (fun j101 V101 e101 h101 wc101 wd101 A101 E101 P101 T101 B101 J101 F101 => ?_) (fun fl101 k101 e101 h101 R101 F101 => ?_)
      · skip
        subst e101
        dsimp only [sb] at hsp
        refine wp_go rfl rfl ?_
        refine wp_go rfl rfl ?_
        refine wp_go rfl rfl ?_
        refine wp_cv rfl rfl rfl A101 rfl rfl rfl ?_
        refine c_say (wc := wc101) A101 E101 (by omega) (by omega) (fun _ => ?_) (fun z => absurd z (by omega))
        refine e_inc (L' := [xR 55, xI (o : Int), xI (c + 1), xI (tK B n (i))]) rfl rfl (by omega) rfl ?_
        refine wp_go rfl rfl ?_
        have hg := hlp rfl
        have hag : ∀ t, t < wc → hc_u wd101 wc101 (0 * 64 + tK B n i) t = wd t := fun t ht => (hu_n (by omega)).trans (T101 t ht)
        refine ih 1 (by decide) o _ _ r hsp _ _ _ (wc101 + 1) w0 (hc_u wd101 (wc101) (0 * 64 + (tK B n (i)))) cl co tl rb _ _ ho (by omega) ((HT.w5.fr F101 rfl).fr (((Fr.rf (l := [55, 56])).wr rfl).wr rfl) rfl) rfl rfl (by omega) (fun _ => ⟨?_, ?_⟩) (fun z => absurd z (by decide)) ?_ ?_
        · rw [x1]
          exact GC_bin (hg.1.mono (Nat.le_refl _) (fun t h1 h2 => hag t (by omega))) (B101.mono (Nat.le_refl _) (fun t h1 h2 => hu_n (by omega))) (by omega) (by omega) hu_s (by omega) (by omega) (by omega)
        · intro z
          exact absurd z (by decide)
        · intro j V e h9 wc9 wd9 P1 P2 P3 P4 P5 P6 P7
          rw [x1] at P5
          exact kok j V e h9 wc9 wd9 P1 P2 (by omega) (fun t ht => (P4 t ht).trans (hag t (by omega))) P5 P6 (((((Fr.rf.wr rfl).tr F101 (fun _ z => z)).wr rfl).wr rfl).tr P7 (fun _ z => z))
        · intro fl k e h9 P1 P2
          exact kf fl k e h9 P1 (((((Fr.rf.wr rfl).tr F101 (fun _ z => z)).wr rfl).wr rfl).tr P2 (fun _ z => z))
      · skip
        subst e101
        dsimp only [sb] at hsp
        obtain rfl := Option.some.inj hsp
        obtain ⟨wy101, wx101, hw101, G101, E101, hf101⟩ := id R101
        refine wp_go rfl rfl ?_
        refine wp_go rfl rfl ?_
        refine wp_go rfl rfl ?_
        refine wp_cv rfl rfl rfl G101 rfl rfl rfl ?_
        refine c_sayS R101 (by omega) (fun h102 R102 F102 => ?_)
        obtain ⟨wc102, wd102, hw102, G102, E102, hf102⟩ := id R102
        refine e_inc (L' := [xR 55, xI (o : Int), xI (c + 1), xI (tK B n (i))]) rfl rfl (by omega) rfl ?_
        refine wp_go rfl rfl ?_
        refine wp_go rfl rfl ?_
        refine wp_go rfl rfl ?_
        refine e_cge rfl (fun c11 => ?_) (fun c11 => ?_)
        · skip
          refine wp_ret rfl rfl ?_
          exact kf _ _ rfl _ R102 (((Fr.rf.wr rfl).tr F101 (fun _ z => z)).tr F102 (fun _ z => z))
        · skip
          refine wp_go rfl rfl ?_
          refine e_get rfl G102 rfl rfl ?_
          refine wp_go rfl rfl ?_
          refine wp_go rfl rfl ?_
          refine wp_call rfl rfl rfl rfl ?_
          refine c_isWithin (fun q => absurd q (by omega)) (fun q => ?_)
          refine wp_go rfl rfl ?_
          refine wp_ret rfl rfl ?_
          exact kf _ _ rfl _ R102 (((Fr.rf.wr rfl).tr F101 (fun _ z => z)).tr F102 (fun _ z => z))
    · skip
      refine wp_go rfl rfl ?_
      refine wp_ret rfl rfl ?_
      rw [if_neg q22] at hsp
      have hg := hlp rfl
      obtain rfl := Option.some.inj hsp
      exact kok _ _ rfl _ (wc) wd H55 H56 (by omega) (fun t _ => rfl) hg.1 hg.2 Fr.rf
set_option maxRecDepth 100000 in
theorem cn_4 {B : Nat → Int} {n : Nat} {lw : Int} (H : BY B) (hn : n ≤ 300) (hlw : lw = 10 ∨ lw = 11) {f : Nat} (ih : ∀ m, m ≤ 9 → CON B n lw f m) : CON B n lw (f + 1) 4 := by
  intro o v i r hsp d h Q wc w0 wd cl co tl rb c l ho hd HT H55 H56 hb hlp hnl kok kf
  rw [sP_4] at hsp
  have x0 : mx 0 = 0 := rfl
  have x1 : mx 1 = 1 := rfl
  have x2 : mx 2 = 2 := rfl
  have x3 : mx 3 = 1 := rfl
  have x4 : mx 4 = 2 := rfl
  have x5 : mx 5 = 5 := rfl
  have x6 : mx 6 = 4 := rfl
  have x7 : mx 7 = 3 := rfl
  have x8 : mx 8 = 5 := rfl
  have x9 : mx 9 = 4 := rfl
  rw [x4] at hd kok hlp
  obtain ⟨d, rfl⟩ : ∃ z, d = z + 7 := ⟨d - 7, by omega⟩
  show hc_wp _ mX3_readSum 7 [xR 55, xI (o : Int), xI c, l] [] h Q
  refine wp_go rfl rfl ?_
  refine wp_go rfl rfl ?_
  refine e_cge rfl (fun c11 => ?_) (fun c11 => ?_)
  · skip
    refine wp_ret rfl rfl ?_
    rw [if_neg (by have := tK_big H hn (show 300 ≤ i by omega); omega)] at hsp
    have hg := hlp rfl
    obtain rfl := Option.some.inj hsp
    exact kok _ _ rfl _ (wc) wd H55 H56 (by omega) (fun t _ => rfl) hg.1 hg.2 Fr.rf
  · skip
    refine wp_go rfl rfl ?_
    refine e_get rfl H55 rfl rfl ?_
    refine wp_go rfl rfl ?_
    refine wp_go rfl rfl ?_
    refine wp_call rfl rfl rfl rfl ?_
    refine c_isWithin  (fun q22 => ?_) (fun q22 => ?_)
    · skip
      refine wp_go rfl rfl ?_
      rw [if_pos q22] at hsp
      have hlt := tK_lt H hn (show tK B n i ≠ 0 by omega)
      refine wp_go rfl rfl ?_
      refine e_get rfl H55 rfl rfl ?_
      refine e_istn (L' := [xR 55, xI (o : Int), xI c, xI (tK B n (i))]) rfl rfl rfl ?_
      refine wp_go rfl rfl ?_
      refine wp_cv rfl rfl rfl H55 rfl rfl rfl ?_
      refine c_advL H hn HT (by omega) H55 ?_
      refine wp_go rfl rfl ?_
      refine wp_go rfl rfl ?_
      refine wp_cv rfl rfl rfl rfl rfl rfl rfl ?_
      obtain ⟨q103, hq103, hsp⟩ := sb_some hsp
      refine ih 3 (by decide) (o) v (i + 1) q103 hq103 _ _ _ (wc) (wc) wd cl co tl rb 0 none (by omega) (by omega) HT.w5 rfl H56 (by omega) (fun z => absurd z (by decide)) (fun _ => rfl) (fun j103 V103 e103 h103 wc103 wd103 A103 E103 P103 T103 B103 J103 F103 => ?_) (fun fl103 k103 e103 h103 R103 F103 => ?_)
      · skip
        subst e103
        dsimp only [sb] at hsp
        refine wp_go rfl rfl ?_
        refine wp_go rfl rfl ?_
        refine wp_go rfl rfl ?_
        refine wp_cv rfl rfl rfl A103 rfl rfl rfl ?_
        refine c_say (wc := wc103) A103 E103 (by omega) (by omega) (fun _ => ?_) (fun z => absurd z (by omega))
        refine e_inc (L' := [xR 55, xI (o : Int), xI (c + 1), xI (tK B n (i))]) rfl rfl (by omega) rfl ?_
        refine wp_go rfl rfl ?_
        have hg := hlp rfl
        have hag : ∀ t, t < wc → hc_u wd103 wc103 (0 * 64 + tK B n i) t = wd t := fun t ht => (hu_n (by omega)).trans (T103 t ht)
        refine ih 4 (by decide) o _ _ r hsp _ _ _ (wc103 + 1) w0 (hc_u wd103 (wc103) (0 * 64 + (tK B n (i)))) cl co tl rb _ _ ho (by omega) ((HT.w5.fr F103 rfl).fr (((Fr.rf (l := [55, 56])).wr rfl).wr rfl) rfl) rfl rfl (by omega) (fun _ => ⟨?_, ?_⟩) (fun z => absurd z (by decide)) ?_ ?_
        · rw [x4]
          exact GC_bin (hg.1.mono (Nat.le_refl _) (fun t h1 h2 => hag t (by omega))) (B103.mono (Nat.le_refl _) (fun t h1 h2 => hu_n (by omega))) (by omega) (by omega) hu_s (by omega) (by omega) (by omega)
        · intro z
          exact absurd z (by decide)
        · intro j V e h9 wc9 wd9 P1 P2 P3 P4 P5 P6 P7
          rw [x4] at P5
          exact kok j V e h9 wc9 wd9 P1 P2 (by omega) (fun t ht => (P4 t ht).trans (hag t (by omega))) P5 P6 (((((Fr.rf.wr rfl).tr F103 (fun _ z => z)).wr rfl).wr rfl).tr P7 (fun _ z => z))
        · intro fl k e h9 P1 P2
          exact kf fl k e h9 P1 (((((Fr.rf.wr rfl).tr F103 (fun _ z => z)).wr rfl).wr rfl).tr P2 (fun _ z => z))
      · skip
        subst e103
        dsimp only [sb] at hsp
        obtain rfl := Option.some.inj hsp
        obtain ⟨wy103, wx103, hw103, G103, E103, hf103⟩ := id R103
        refine wp_go rfl rfl ?_
        refine wp_go rfl rfl ?_
        refine wp_go rfl rfl ?_
        refine wp_cv rfl rfl rfl G103 rfl rfl rfl ?_
        refine c_sayS R103 (by omega) (fun h104 R104 F104 => ?_)
        obtain ⟨wc104, wd104, hw104, G104, E104, hf104⟩ := id R104
        refine e_inc (L' := [xR 55, xI (o : Int), xI (c + 1), xI (tK B n (i))]) rfl rfl (by omega) rfl ?_
        refine wp_go rfl rfl ?_
        refine wp_go rfl rfl ?_
        refine wp_go rfl rfl ?_
        refine e_cge rfl (fun c11 => ?_) (fun c11 => ?_)
        · skip
          refine wp_ret rfl rfl ?_
          exact kf _ _ rfl _ R104 (((Fr.rf.wr rfl).tr F103 (fun _ z => z)).tr F104 (fun _ z => z))
        · skip
          refine wp_go rfl rfl ?_
          refine e_get rfl G104 rfl rfl ?_
          refine wp_go rfl rfl ?_
          refine wp_go rfl rfl ?_
          refine wp_call rfl rfl rfl rfl ?_
          refine c_isWithin (fun q => absurd q (by omega)) (fun q => ?_)
          refine wp_go rfl rfl ?_
          refine wp_ret rfl rfl ?_
          exact kf _ _ rfl _ R104 (((Fr.rf.wr rfl).tr F103 (fun _ z => z)).tr F104 (fun _ z => z))
    · skip
      refine wp_go rfl rfl ?_
      refine wp_ret rfl rfl ?_
      rw [if_neg q22] at hsp
      have hg := hlp rfl
      obtain rfl := Option.some.inj hsp
      exact kok _ _ rfl _ (wc) wd H55 H56 (by omega) (fun t _ => rfl) hg.1 hg.2 Fr.rf
set_option maxRecDepth 100000 in
theorem cn_8 {B : Nat → Int} {n : Nat} {lw : Int} (H : BY B) (hn : n ≤ 300) (hlw : lw = 10 ∨ lw = 11) {f : Nat} (ih : ∀ m, m ≤ 9 → CON B n lw f m) : CON B n lw (f + 1) 8 := by
  intro o v i r hsp d h Q wc w0 wd cl co tl rb c l ho hd HT H55 H56 hb hlp hnl kok kf
  rw [sP_8] at hsp
  have x0 : mx 0 = 0 := rfl
  have x1 : mx 1 = 1 := rfl
  have x2 : mx 2 = 2 := rfl
  have x3 : mx 3 = 1 := rfl
  have x4 : mx 4 = 2 := rfl
  have x5 : mx 5 = 5 := rfl
  have x6 : mx 6 = 4 := rfl
  have x7 : mx 7 = 3 := rfl
  have x8 : mx 8 = 5 := rfl
  have x9 : mx 9 = 4 := rfl
  rw [x8] at hd kok hlp
  obtain ⟨d, rfl⟩ : ∃ z, d = z + 10 := ⟨d - 10, by omega⟩
  show hc_wp _ mX3_readEither 7 [xR 55, xI (o : Int), xI c] [] h Q
  refine wp_go rfl rfl ?_
  refine wp_go rfl rfl ?_
  refine e_cge rfl (fun c11 => ?_) (fun c11 => ?_)
  · skip
    refine wp_ret rfl rfl ?_
    rw [if_neg (by have := tK_big H hn (show 300 ≤ i by omega); omega)] at hsp
    have hg := hlp rfl
    obtain rfl := Option.some.inj hsp
    exact kok _ _ rfl _ (wc) wd H55 H56 (by omega) (fun t _ => rfl) hg.1 hg.2 Fr.rf
  · skip
    refine wp_go rfl rfl ?_
    refine e_get rfl H55 rfl rfl ?_
    refine wp_go rfl rfl ?_
    refine e_cne rfl (fun c20 => ?_) (fun c20 => ?_)
    · skip
      refine wp_ret rfl rfl ?_
      rw [if_neg c20] at hsp
      have hg := hlp rfl
      obtain rfl := Option.some.inj hsp
      exact kok _ _ rfl _ (wc) wd H55 H56 (by omega) (fun t _ => rfl) hg.1 hg.2 Fr.rf
    · skip
      rw [if_pos c20] at hsp
      have hlt := tK_lt H hn (show tK B n i ≠ 0 by omega)
      refine wp_go rfl rfl ?_
      refine wp_cv rfl rfl rfl H55 rfl rfl rfl ?_
      refine c_advL H hn HT (by omega) H55 ?_
      refine wp_go rfl rfl ?_
      refine wp_go rfl rfl ?_
      refine wp_cv rfl rfl rfl rfl rfl rfl rfl ?_
      obtain ⟨q105, hq105, hsp⟩ := sb_some hsp
      refine ih 6 (by decide) (o) v (i + 1) q105 hq105 _ _ _ (wc) (wc) wd cl co tl rb 0 none (by omega) (by omega) HT.w5 rfl H56 (by omega) (fun z => absurd z (by decide)) (fun _ => rfl) (fun j105 V105 e105 h105 wc105 wd105 A105 E105 P105 T105 B105 J105 F105 => ?_) (fun fl105 k105 e105 h105 R105 F105 => ?_)
      · skip
        subst e105
        dsimp only [sb] at hsp
        refine wp_go rfl rfl ?_
        refine wp_go rfl rfl ?_
        refine wp_go rfl rfl ?_
        refine wp_cv rfl rfl rfl A105 rfl rfl rfl ?_
        refine c_say (wc := wc105) A105 E105 (by omega) (by omega) (fun _ => ?_) (fun z => absurd z (by omega))
        refine e_inc (L' := [xR 55, xI (o : Int), xI (c + 1)]) rfl rfl (by omega) rfl ?_
        refine wp_go rfl rfl ?_
        have hg := hlp rfl
        have hag : ∀ t, t < wc → hc_u wd105 wc105 (0 * 64 + 20) t = wd t := fun t ht => (hu_n (by omega)).trans (T105 t ht)
        refine ih 8 (by decide) o _ _ r hsp _ _ _ (wc105 + 1) w0 (hc_u wd105 (wc105) (0 * 64 + 20)) cl co tl rb _ none ho (by omega) ((HT.w5.fr F105 rfl).fr (((Fr.rf (l := [55, 56])).wr rfl).wr rfl) rfl) rfl rfl (by omega) (fun _ => ⟨?_, ?_⟩) (fun z => absurd z (by decide)) ?_ ?_
        · rw [x8]
          exact GC_bin (hg.1.mono (Nat.le_refl _) (fun t h1 h2 => hag t (by omega))) (B105.mono (Nat.le_refl _) (fun t h1 h2 => hu_n (by omega))) (by omega) (by omega) hu_s (by omega) (by omega) (by omega)
        · intro _
          exact GB_op (by omega)
        · intro j V e h9 wc9 wd9 P1 P2 P3 P4 P5 P6 P7
          rw [x8] at P5
          exact kok j V e h9 wc9 wd9 P1 P2 (by omega) (fun t ht => (P4 t ht).trans (hag t (by omega))) P5 P6 (((((Fr.rf.wr rfl).tr F105 (fun _ z => z)).wr rfl).wr rfl).tr P7 (fun _ z => z))
        · intro fl k e h9 P1 P2
          exact kf fl k e h9 P1 (((((Fr.rf.wr rfl).tr F105 (fun _ z => z)).wr rfl).wr rfl).tr P2 (fun _ z => z))
      · skip
        subst e105
        dsimp only [sb] at hsp
        obtain rfl := Option.some.inj hsp
        obtain ⟨wy105, wx105, hw105, G105, E105, hf105⟩ := id R105
        refine wp_go rfl rfl ?_
        refine wp_go rfl rfl ?_
        refine wp_go rfl rfl ?_
        refine wp_cv rfl rfl rfl G105 rfl rfl rfl ?_
        refine c_sayS R105 (by omega) (fun h106 R106 F106 => ?_)
        obtain ⟨wc106, wd106, hw106, G106, E106, hf106⟩ := id R106
        refine e_inc (L' := [xR 55, xI (o : Int), xI (c + 1)]) rfl rfl (by omega) rfl ?_
        refine wp_go rfl rfl ?_
        refine wp_go rfl rfl ?_
        refine wp_go rfl rfl ?_
        refine e_cge rfl (fun c11 => ?_) (fun c11 => ?_)
        · skip
          refine wp_ret rfl rfl ?_
          exact kf _ _ rfl _ R106 (((Fr.rf.wr rfl).tr F105 (fun _ z => z)).tr F106 (fun _ z => z))
        · skip
          refine wp_go rfl rfl ?_
          refine e_get rfl G106 rfl rfl ?_
          refine wp_go rfl rfl ?_
          refine wp_go rfl rfl ?_
          refine wp_ret rfl rfl ?_
          exact kf _ _ rfl _ R106 (((Fr.rf.wr rfl).tr F105 (fun _ z => z)).tr F106 (fun _ z => z))
set_option maxRecDepth 100000 in
theorem cn_9 {B : Nat → Int} {n : Nat} {lw : Int} (H : BY B) (hn : n ≤ 300) (hlw : lw = 10 ∨ lw = 11) {f : Nat} (ih : ∀ m, m ≤ 9 → CON B n lw f m) : CON B n lw (f + 1) 9 := by
  intro o v i r hsp d h Q wc w0 wd cl co tl rb c l ho hd HT H55 H56 hb hlp hnl kok kf
  rw [sP_9] at hsp
  have x0 : mx 0 = 0 := rfl
  have x1 : mx 1 = 1 := rfl
  have x2 : mx 2 = 2 := rfl
  have x3 : mx 3 = 1 := rfl
  have x4 : mx 4 = 2 := rfl
  have x5 : mx 5 = 5 := rfl
  have x6 : mx 6 = 4 := rfl
  have x7 : mx 7 = 3 := rfl
  have x8 : mx 8 = 5 := rfl
  have x9 : mx 9 = 4 := rfl
  rw [x9] at hd kok hlp
  obtain ⟨d, rfl⟩ : ∃ z, d = z + 9 := ⟨d - 9, by omega⟩
  show hc_wp _ mX3_readBoth 7 [xR 55, xI (o : Int), xI c] [] h Q
  refine wp_go rfl rfl ?_
  refine wp_go rfl rfl ?_
  refine e_cge rfl (fun c11 => ?_) (fun c11 => ?_)
  · skip
    refine wp_ret rfl rfl ?_
    rw [if_neg (by have := tK_big H hn (show 300 ≤ i by omega); omega)] at hsp
    have hg := hlp rfl
    obtain rfl := Option.some.inj hsp
    exact kok _ _ rfl _ (wc) wd H55 H56 (by omega) (fun t _ => rfl) hg.1 hg.2 Fr.rf
  · skip
    refine wp_go rfl rfl ?_
    refine e_get rfl H55 rfl rfl ?_
    refine wp_go rfl rfl ?_
    refine e_cne rfl (fun c20 => ?_) (fun c20 => ?_)
    · skip
      refine wp_ret rfl rfl ?_
      rw [if_neg c20] at hsp
      have hg := hlp rfl
      obtain rfl := Option.some.inj hsp
      exact kok _ _ rfl _ (wc) wd H55 H56 (by omega) (fun t _ => rfl) hg.1 hg.2 Fr.rf
    · skip
      rw [if_pos c20] at hsp
      have hlt := tK_lt H hn (show tK B n i ≠ 0 by omega)
      refine wp_go rfl rfl ?_
      refine wp_cv rfl rfl rfl H55 rfl rfl rfl ?_
      refine c_advL H hn HT (by omega) H55 ?_
      refine wp_go rfl rfl ?_
      refine wp_go rfl rfl ?_
      refine wp_cv rfl rfl rfl rfl rfl rfl rfl ?_
      obtain ⟨q107, hq107, hsp⟩ := sb_some hsp
      refine ih 7 (by decide) (o) v (i + 1) q107 hq107 _ _ _ (wc) (wc) wd cl co tl rb 0 none (by omega) (by omega) HT.w5 rfl H56 (by omega) (fun z => absurd z (by decide)) (fun _ => rfl) (fun j107 V107 e107 h107 wc107 wd107 A107 E107 P107 T107 B107 J107 F107 => ?_) (fun fl107 k107 e107 h107 R107 F107 => ?_)
      · skip
        subst e107
        dsimp only [sb] at hsp
        refine wp_go rfl rfl ?_
        refine wp_go rfl rfl ?_
        refine wp_go rfl rfl ?_
        refine wp_cv rfl rfl rfl A107 rfl rfl rfl ?_
        refine c_say (wc := wc107) A107 E107 (by omega) (by omega) (fun _ => ?_) (fun z => absurd z (by omega))
        refine e_inc (L' := [xR 55, xI (o : Int), xI (c + 1)]) rfl rfl (by omega) rfl ?_
        refine wp_go rfl rfl ?_
        have hg := hlp rfl
        have hag : ∀ t, t < wc → hc_u wd107 wc107 (0 * 64 + 21) t = wd t := fun t ht => (hu_n (by omega)).trans (T107 t ht)
        refine ih 9 (by decide) o _ _ r hsp _ _ _ (wc107 + 1) w0 (hc_u wd107 (wc107) (0 * 64 + 21)) cl co tl rb _ none ho (by omega) ((HT.w5.fr F107 rfl).fr (((Fr.rf (l := [55, 56])).wr rfl).wr rfl) rfl) rfl rfl (by omega) (fun _ => ⟨?_, ?_⟩) (fun z => absurd z (by decide)) ?_ ?_
        · rw [x9]
          exact GC_bin (hg.1.mono (Nat.le_refl _) (fun t h1 h2 => hag t (by omega))) (B107.mono (Nat.le_refl _) (fun t h1 h2 => hu_n (by omega))) (by omega) (by omega) hu_s (by omega) (by omega) (by omega)
        · intro _
          exact GB_op (by omega)
        · intro j V e h9 wc9 wd9 P1 P2 P3 P4 P5 P6 P7
          rw [x9] at P5
          exact kok j V e h9 wc9 wd9 P1 P2 (by omega) (fun t ht => (P4 t ht).trans (hag t (by omega))) P5 P6 (((((Fr.rf.wr rfl).tr F107 (fun _ z => z)).wr rfl).wr rfl).tr P7 (fun _ z => z))
        · intro fl k e h9 P1 P2
          exact kf fl k e h9 P1 (((((Fr.rf.wr rfl).tr F107 (fun _ z => z)).wr rfl).wr rfl).tr P2 (fun _ z => z))
      · skip
        subst e107
        dsimp only [sb] at hsp
        obtain rfl := Option.some.inj hsp
        obtain ⟨wy107, wx107, hw107, G107, E107, hf107⟩ := id R107
        refine wp_go rfl rfl ?_
        refine wp_go rfl rfl ?_
        refine wp_go rfl rfl ?_
        refine wp_cv rfl rfl rfl G107 rfl rfl rfl ?_
        refine c_sayS R107 (by omega) (fun h108 R108 F108 => ?_)
        obtain ⟨wc108, wd108, hw108, G108, E108, hf108⟩ := id R108
        refine e_inc (L' := [xR 55, xI (o : Int), xI (c + 1)]) rfl rfl (by omega) rfl ?_
        refine wp_go rfl rfl ?_
        refine wp_go rfl rfl ?_
        refine wp_go rfl rfl ?_
        refine e_cge rfl (fun c11 => ?_) (fun c11 => ?_)
        · skip
          refine wp_ret rfl rfl ?_
          exact kf _ _ rfl _ R108 (((Fr.rf.wr rfl).tr F107 (fun _ z => z)).tr F108 (fun _ z => z))
        · skip
          refine wp_go rfl rfl ?_
          refine e_get rfl G108 rfl rfl ?_
          refine wp_go rfl rfl ?_
          refine wp_go rfl rfl ?_
          refine wp_ret rfl rfl ?_
          exact kf _ _ rfl _ R108 (((Fr.rf.wr rfl).tr F107 (fun _ z => z)).tr F108 (fun _ z => z))
set_option maxRecDepth 100000 in
theorem cn_3 {B : Nat → Int} {n : Nat} {lw : Int} (H : BY B) (hn : n ≤ 300) (hlw : lw = 10 ∨ lw = 11) {f : Nat} (ih : ∀ m, m ≤ 9 → CON B n lw f m) : CON B n lw (f + 1) 3 := by
  intro o v i r hsp d h Q wc w0 wd cl co tl rb c l ho hd HT H55 H56 hb hlp hnl kok kf
  rw [sP_3] at hsp
  have x0 : mx 0 = 0 := rfl
  have x1 : mx 1 = 1 := rfl
  have x2 : mx 2 = 2 := rfl
  have x3 : mx 3 = 1 := rfl
  have x4 : mx 4 = 2 := rfl
  have x5 : mx 5 = 5 := rfl
  have x6 : mx 6 = 4 := rfl
  have x7 : mx 7 = 3 := rfl
  have x8 : mx 8 = 5 := rfl
  have x9 : mx 9 = 4 := rfl
  rw [x3] at hd kok hlp
  obtain ⟨d, rfl⟩ : ∃ z, d = z + 6 := ⟨d - 6, by omega⟩
  obtain rfl : wc = w0 := (hnl rfl).symm
  show hc_wp _ mX3_readProduct 0 [xR 55, xI (o : Int), none, none] [] h Q
  refine wp_go rfl rfl ?_
  refine wp_go rfl rfl ?_
  refine wp_cv rfl rfl rfl H55 rfl rfl rfl ?_
  obtain ⟨q109, hq109, hsp⟩ := sb_some hsp
  refine ih 0 (by decide) (o) v (i) q109 hq109 _ _ _ (wc) (wc) wd cl co tl rb 0 none (by omega) (by omega) HT H55 H56 (by omega) (fun z => absurd z (by decide)) (fun _ => rfl) (fun j109 V109 e109 h109 wc109 wd109 A109 E109 P109 T109 B109 J109 F109 => ?_) (fun fl109 k109 e109 h109 R109 F109 => ?_)
  · skip
    subst e109
    dsimp only [sb] at hsp
    refine wp_go rfl rfl ?_
    refine e_istn (L' := [xR 55, xI (o : Int), xI 0, none]) rfl rfl rfl ?_
    refine ih 1 (by decide) o _ _ r hsp _ _ _ (wc109) wc wd109 cl co tl rb _ _ ho (by omega) (HT.fr F109 rfl) A109 E109 (by omega) (fun _ => ⟨?_, ?_⟩) (fun z => absurd z (by decide)) ?_ ?_
    · rw [x1]
      exact B109.mono (by omega) (fun t h1 h2 => rfl)
    · intro z
      exact absurd z (by decide)
    · intro j V e h9 wc9 wd9 P1 P2 P3 P4 P5 P6 P7
      rw [x1] at P5
      exact kok j V e h9 wc9 wd9 P1 P2 (by omega) (fun t ht => (P4 t (by omega)).trans (T109 t (by omega))) P5 P6 ((Fr.rf.tr F109 (fun _ z => z)).tr P7 (fun _ z => z))
    · intro fl k e h9 P1 P2
      exact kf fl k e h9 P1 ((Fr.rf.tr F109 (fun _ z => z)).tr P2 (fun _ z => z))
  · skip
    subst e109
    dsimp only [sb] at hsp
    obtain rfl := Option.some.inj hsp
    obtain ⟨wy109, wx109, hw109, G109, E109, hf109⟩ := id R109
    refine wp_go rfl rfl ?_
    refine e_istn (L' := [xR 55, xI (o : Int), xI 0, none]) rfl rfl rfl ?_
    refine wp_go rfl rfl ?_
    refine wp_go rfl rfl ?_
    refine wp_go rfl rfl ?_
    refine wp_go rfl rfl ?_
    refine e_get rfl G109 rfl rfl ?_
    refine wp_go rfl rfl ?_
    refine wp_go rfl rfl ?_
    refine wp_call rfl rfl rfl rfl ?_
    refine c_isWithin (fun q => absurd q (by omega)) (fun q => ?_)
    refine wp_go rfl rfl ?_
    refine wp_ret rfl rfl ?_
    exact kf _ _ rfl _ R109 (Fr.rf.tr F109 (fun _ z => z))
set_option maxRecDepth 100000 in
theorem cn_2 {B : Nat → Int} {n : Nat} {lw : Int} (H : BY B) (hn : n ≤ 300) (hlw : lw = 10 ∨ lw = 11) {f : Nat} (ih : ∀ m, m ≤ 9 → CON B n lw f m) : CON B n lw (f + 1) 2 := by
  intro o v i r hsp d h Q wc w0 wd cl co tl rb c l ho hd HT H55 H56 hb hlp hnl kok kf
  rw [sP_2] at hsp
  have x0 : mx 0 = 0 := rfl
  have x1 : mx 1 = 1 := rfl
  have x2 : mx 2 = 2 := rfl
  have x3 : mx 3 = 1 := rfl
  have x4 : mx 4 = 2 := rfl
  have x5 : mx 5 = 5 := rfl
  have x6 : mx 6 = 4 := rfl
  have x7 : mx 7 = 3 := rfl
  have x8 : mx 8 = 5 := rfl
  have x9 : mx 9 = 4 := rfl
  rw [x2] at hd kok hlp
  obtain ⟨d, rfl⟩ : ∃ z, d = z + 7 := ⟨d - 7, by omega⟩
  obtain rfl : wc = w0 := (hnl rfl).symm
  show hc_wp _ mX3_readSum 0 [xR 55, xI (o : Int), none, none] [] h Q
  refine wp_go rfl rfl ?_
  refine wp_go rfl rfl ?_
  refine wp_cv rfl rfl rfl H55 rfl rfl rfl ?_
  obtain ⟨q110, hq110, hsp⟩ := sb_some hsp
  refine ih 3 (by decide) (o) v (i) q110 hq110 _ _ _ (wc) (wc) wd cl co tl rb 0 none (by omega) (by omega) HT H55 H56 (by omega) (fun z => absurd z (by decide)) (fun _ => rfl) (fun j110 V110 e110 h110 wc110 wd110 A110 E110 P110 T110 B110 J110 F110 => ?_) (fun fl110 k110 e110 h110 R110 F110 => ?_)
  · skip
    subst e110
    dsimp only [sb] at hsp
    refine wp_go rfl rfl ?_
    refine e_istn (L' := [xR 55, xI (o : Int), xI 0, none]) rfl rfl rfl ?_
    refine ih 4 (by decide) o _ _ r hsp _ _ _ (wc110) wc wd110 cl co tl rb _ _ ho (by omega) (HT.fr F110 rfl) A110 E110 (by omega) (fun _ => ⟨?_, ?_⟩) (fun z => absurd z (by decide)) ?_ ?_
    · rw [x4]
      exact B110.mono (by omega) (fun t h1 h2 => rfl)
    · intro z
      exact absurd z (by decide)
    · intro j V e h9 wc9 wd9 P1 P2 P3 P4 P5 P6 P7
      rw [x4] at P5
      exact kok j V e h9 wc9 wd9 P1 P2 (by omega) (fun t ht => (P4 t (by omega)).trans (T110 t (by omega))) P5 P6 ((Fr.rf.tr F110 (fun _ z => z)).tr P7 (fun _ z => z))
    · intro fl k e h9 P1 P2
      exact kf fl k e h9 P1 ((Fr.rf.tr F110 (fun _ z => z)).tr P2 (fun _ z => z))
  · skip
    subst e110
    dsimp only [sb] at hsp
    obtain rfl := Option.some.inj hsp
    obtain ⟨wy110, wx110, hw110, G110, E110, hf110⟩ := id R110
    refine wp_go rfl rfl ?_
    refine e_istn (L' := [xR 55, xI (o : Int), xI 0, none]) rfl rfl rfl ?_
    refine wp_go rfl rfl ?_
    refine wp_go rfl rfl ?_
    refine wp_go rfl rfl ?_
    refine wp_go rfl rfl ?_
    refine e_get rfl G110 rfl rfl ?_
    refine wp_go rfl rfl ?_
    refine wp_go rfl rfl ?_
    refine wp_call rfl rfl rfl rfl ?_
    refine c_isWithin (fun q => absurd q (by omega)) (fun q => ?_)
    refine wp_go rfl rfl ?_
    refine wp_ret rfl rfl ?_
    exact kf _ _ rfl _ R110 (Fr.rf.tr F110 (fun _ z => z))
set_option maxRecDepth 100000 in
theorem cn_5 {B : Nat → Int} {n : Nat} {lw : Int} (H : BY B) (hn : n ≤ 300) (hlw : lw = 10 ∨ lw = 11) {f : Nat} (ih : ∀ m, m ≤ 9 → CON B n lw f m) : CON B n lw (f + 1) 5 := by
  intro o v i r hsp d h Q wc w0 wd cl co tl rb c l ho hd HT H55 H56 hb hlp hnl kok kf
  rw [sP_5] at hsp
  have x0 : mx 0 = 0 := rfl
  have x1 : mx 1 = 1 := rfl
  have x2 : mx 2 = 2 := rfl
  have x3 : mx 3 = 1 := rfl
  have x4 : mx 4 = 2 := rfl
  have x5 : mx 5 = 5 := rfl
  have x6 : mx 6 = 4 := rfl
  have x7 : mx 7 = 3 := rfl
  have x8 : mx 8 = 5 := rfl
  have x9 : mx 9 = 4 := rfl
  rw [x5] at hd kok hlp
  obtain ⟨d, rfl⟩ : ∃ z, d = z + 10 := ⟨d - 10, by omega⟩
  obtain rfl : wc = w0 := (hnl rfl).symm
  show hc_wp _ mX3_readEither 0 [xR 55, xI (o : Int), none] [] h Q
  refine wp_go rfl rfl ?_
  refine wp_go rfl rfl ?_
  refine wp_cv rfl rfl rfl H55 rfl rfl rfl ?_
  obtain ⟨q111, hq111, hsp⟩ := sb_some hsp
  refine ih 6 (by decide) (o) v (i) q111 hq111 _ _ _ (wc) (wc) wd cl co tl rb 0 none (by omega) (by omega) HT H55 H56 (by omega) (fun z => absurd z (by decide)) (fun _ => rfl) (fun j111 V111 e111 h111 wc111 wd111 A111 E111 P111 T111 B111 J111 F111 => ?_) (fun fl111 k111 e111 h111 R111 F111 => ?_)
  · skip
    subst e111
    dsimp only [sb] at hsp
    refine wp_go rfl rfl ?_
    refine e_istn (L' := [xR 55, xI (o : Int), xI 0]) rfl rfl rfl ?_
    refine ih 8 (by decide) o _ _ r hsp _ _ _ (wc111) wc wd111 cl co tl rb _ none ho (by omega) (HT.fr F111 rfl) A111 E111 (by omega) (fun _ => ⟨?_, ?_⟩) (fun z => absurd z (by decide)) ?_ ?_
    · rw [x8]
      exact B111.mono (by omega) (fun t h1 h2 => rfl)
    · intro z
      exact J111 rfl
    · intro j V e h9 wc9 wd9 P1 P2 P3 P4 P5 P6 P7
      rw [x8] at P5
      exact kok j V e h9 wc9 wd9 P1 P2 (by omega) (fun t ht => (P4 t (by omega)).trans (T111 t (by omega))) P5 P6 ((Fr.rf.tr F111 (fun _ z => z)).tr P7 (fun _ z => z))
    · intro fl k e h9 P1 P2
      exact kf fl k e h9 P1 ((Fr.rf.tr F111 (fun _ z => z)).tr P2 (fun _ z => z))
  · skip
    subst e111
    dsimp only [sb] at hsp
    obtain rfl := Option.some.inj hsp
    obtain ⟨wy111, wx111, hw111, G111, E111, hf111⟩ := id R111
    refine wp_go rfl rfl ?_
    refine e_istn (L' := [xR 55, xI (o : Int), xI 0]) rfl rfl rfl ?_
    refine wp_go rfl rfl ?_
    refine wp_go rfl rfl ?_
    refine wp_go rfl rfl ?_
    refine wp_go rfl rfl ?_
    refine e_get rfl G111 rfl rfl ?_
    refine wp_go rfl rfl ?_
    refine wp_go rfl rfl ?_
    refine wp_ret rfl rfl ?_
    exact kf _ _ rfl _ R111 (Fr.rf.tr F111 (fun _ z => z))
set_option maxRecDepth 100000 in
theorem cn_6 {B : Nat → Int} {n : Nat} {lw : Int} (H : BY B) (hn : n ≤ 300) (hlw : lw = 10 ∨ lw = 11) {f : Nat} (ih : ∀ m, m ≤ 9 → CON B n lw f m) : CON B n lw (f + 1) 6 := by
  intro o v i r hsp d h Q wc w0 wd cl co tl rb c l ho hd HT H55 H56 hb hlp hnl kok kf
  rw [sP_6] at hsp
  have x0 : mx 0 = 0 := rfl
  have x1 : mx 1 = 1 := rfl
  have x2 : mx 2 = 2 := rfl
  have x3 : mx 3 = 1 := rfl
  have x4 : mx 4 = 2 := rfl
  have x5 : mx 5 = 5 := rfl
  have x6 : mx 6 = 4 := rfl
  have x7 : mx 7 = 3 := rfl
  have x8 : mx 8 = 5 := rfl
  have x9 : mx 9 = 4 := rfl
  rw [x6] at hd kok hlp
  obtain ⟨d, rfl⟩ : ∃ z, d = z + 9 := ⟨d - 9, by omega⟩
  obtain rfl : wc = w0 := (hnl rfl).symm
  show hc_wp _ mX3_readBoth 0 [xR 55, xI (o : Int), none] [] h Q
  refine wp_go rfl rfl ?_
  refine wp_go rfl rfl ?_
  refine wp_cv rfl rfl rfl H55 rfl rfl rfl ?_
  obtain ⟨q112, hq112, hsp⟩ := sb_some hsp
  refine ih 7 (by decide) (o) v (i) q112 hq112 _ _ _ (wc) (wc) wd cl co tl rb 0 none (by omega) (by omega) HT H55 H56 (by omega) (fun z => absurd z (by decide)) (fun _ => rfl) (fun j112 V112 e112 h112 wc112 wd112 A112 E112 P112 T112 B112 J112 F112 => ?_) (fun fl112 k112 e112 h112 R112 F112 => ?_)
  · skip
    subst e112
    dsimp only [sb] at hsp
    refine wp_go rfl rfl ?_
    refine e_istn (L' := [xR 55, xI (o : Int), xI 0]) rfl rfl rfl ?_
    refine ih 9 (by decide) o _ _ r hsp _ _ _ (wc112) wc wd112 cl co tl rb _ none ho (by omega) (HT.fr F112 rfl) A112 E112 (by omega) (fun _ => ⟨?_, ?_⟩) (fun z => absurd z (by decide)) ?_ ?_
    · rw [x9]
      exact B112.mono (by omega) (fun t h1 h2 => rfl)
    · intro z
      exact J112 rfl
    · intro j V e h9 wc9 wd9 P1 P2 P3 P4 P5 P6 P7
      rw [x9] at P5
      exact kok j V e h9 wc9 wd9 P1 P2 (by omega) (fun t ht => (P4 t (by omega)).trans (T112 t (by omega))) P5 P6 ((Fr.rf.tr F112 (fun _ z => z)).tr P7 (fun _ z => z))
    · intro fl k e h9 P1 P2
      exact kf fl k e h9 P1 ((Fr.rf.tr F112 (fun _ z => z)).tr P2 (fun _ z => z))
  · skip
    subst e112
    dsimp only [sb] at hsp
    obtain rfl := Option.some.inj hsp
    obtain ⟨wy112, wx112, hw112, G112, E112, hf112⟩ := id R112
    refine wp_go rfl rfl ?_
    refine e_istn (L' := [xR 55, xI (o : Int), xI 0]) rfl rfl rfl ?_
    refine wp_go rfl rfl ?_
    refine wp_go rfl rfl ?_
    refine wp_go rfl rfl ?_
    refine wp_go rfl rfl ?_
    refine e_get rfl G112 rfl rfl ?_
    refine wp_go rfl rfl ?_
    refine wp_go rfl rfl ?_
    refine wp_ret rfl rfl ?_
    exact kf _ _ rfl _ R112 (Fr.rf.tr F112 (fun _ z => z))
set_option maxRecDepth 100000 in
theorem cn_7 {B : Nat → Int} {n : Nat} {lw : Int} (H : BY B) (hn : n ≤ 300) (hlw : lw = 10 ∨ lw = 11) {f : Nat} (ih : ∀ m, m ≤ 9 → CON B n lw f m) : CON B n lw (f + 1) 7 := by
  intro o v i r hsp d h Q wc w0 wd cl co tl rb c l ho hd HT H55 H56 hb hlp hnl kok kf
  rw [sP_7] at hsp
  have x0 : mx 0 = 0 := rfl
  have x1 : mx 1 = 1 := rfl
  have x2 : mx 2 = 2 := rfl
  have x3 : mx 3 = 1 := rfl
  have x4 : mx 4 = 2 := rfl
  have x5 : mx 5 = 5 := rfl
  have x6 : mx 6 = 4 := rfl
  have x7 : mx 7 = 3 := rfl
  have x8 : mx 8 = 5 := rfl
  have x9 : mx 9 = 4 := rfl
  rw [x7] at hd kok hlp
  obtain ⟨d, rfl⟩ : ∃ z, d = z + 8 := ⟨d - 8, by omega⟩
  obtain rfl : wc = w0 := (hnl rfl).symm
  show hc_wp _ mX3_readAsk 0 [xR 55, xI (o : Int), none] [] h Q
  refine wp_go rfl rfl ?_
  refine e_get rfl H55 rfl rfl ?_
  refine wp_go rfl rfl ?_
  refine e_cne rfl (fun c6 => ?_) (fun c6 => ?_)
  · skip
    rw [if_neg c6] at hsp
    refine wp_go rfl rfl ?_
    refine wp_go rfl rfl ?_
    refine wp_cv rfl rfl rfl H55 rfl rfl rfl ?_
    obtain ⟨q113, hq113, hsp⟩ := sb_some hsp
    refine ih 2 (by decide) (o) v (i) q113 hq113 _ _ _ (wc) (wc) wd cl co tl rb 0 none (by omega) (by omega) HT H55 H56 (by omega) (fun z => absurd z (by decide)) (fun _ => rfl) (fun j113 V113 e113 h113 wc113 wd113 A113 E113 P113 T113 B113 J113 F113 => ?_) (fun fl113 k113 e113 h113 R113 F113 => ?_)
    · skip
      subst e113
      dsimp only [sb] at hsp
      refine wp_go rfl rfl ?_
      refine e_get rfl A113 rfl rfl ?_
      refine e_istn (L' := [xR 55, xI (o : Int), xI (tK B n (j113))]) rfl rfl rfl ?_
      refine wp_go rfl rfl ?_
      refine e_get rfl A113 rfl rfl ?_
      refine wp_go rfl rfl ?_
      refine wp_go rfl rfl ?_
      refine wp_call rfl rfl rfl rfl ?_
      refine c_isWithin  (fun q50 => ?_) (fun q50 => ?_)
      · skip
        refine wp_go rfl rfl ?_
        rw [if_pos q50] at hsp
        have hlt2 := tK_lt H hn (show tK B n (j113) ≠ 0 by omega)
        refine wp_go rfl rfl ?_
        refine wp_cv rfl rfl rfl A113 rfl rfl rfl ?_
        refine c_advL H hn (HT.fr F113 rfl) (by omega) A113 ?_
        refine wp_go rfl rfl ?_
        refine wp_go rfl rfl ?_
        refine wp_cv rfl rfl rfl rfl rfl rfl rfl ?_
        obtain ⟨q114, hq114, hsp⟩ := sb_some hsp
        refine ih 2 (by decide) (o) v (j113 + 1) q114 hq114 _ _ _ (wc113) (wc113) wd113 cl co tl rb 0 none (by omega) (by omega) (HT.fr F113 rfl).w5 rfl E113 (by omega) (fun z => absurd z (by decide)) (fun _ => rfl) (fun j114 V114 e114 h114 wc114 wd114 A114 E114 P114 T114 B114 J114 F114 => ?_) (fun fl114 k114 e114 h114 R114 F114 => ?_)
        · skip
          subst e114
          dsimp only [sb] at hsp
          refine wp_go rfl rfl ?_
          refine wp_go rfl rfl ?_
          refine wp_go rfl rfl ?_
          refine wp_cv rfl rfl rfl A114 rfl rfl rfl ?_
          refine c_say (wc := wc114) A114 E114 (by omega) (by omega) (fun _ => ?_) (fun z => absurd z (by omega))
          refine wp_go rfl rfl ?_
          refine wp_ret rfl rfl ?_
          obtain rfl := Option.some.inj hsp
          exact kok _ _ rfl _ (wc114 + 1) (hc_u wd114 (wc114) (0 * 64 + (tK B n (j113)))) rfl rfl (by omega) (fun t ht => (hu_n (by omega)).trans ((T114 t (by omega)).trans (T113 t ht))) (GC_bin (B113.mono (Nat.le_refl _) (fun t h1 h2 => (hu_n (by omega)).trans (T114 t (by omega)))) (B114.mono (Nat.le_refl _) (fun t h1 h2 => hu_n (by omega))) (by omega) (by omega) hu_s (by omega) (by omega) (by omega)) (fun _ => GB_op (by omega)) (((((Fr.rf.tr F113 (fun _ z => z)).wr rfl).tr F114 (fun _ z => z)).wr rfl).wr rfl)
        · skip
          subst e114
          dsimp only [sb] at hsp
          obtain rfl := Option.some.inj hsp
          obtain ⟨wy114, wx114, hw114, G114, E114, hf114⟩ := id R114
          refine wp_go rfl rfl ?_
          refine wp_go rfl rfl ?_
          refine wp_go rfl rfl ?_
          refine wp_cv rfl rfl rfl G114 rfl rfl rfl ?_
          refine c_sayS R114 (by omega) (fun h115 R115 F115 => ?_)
          obtain ⟨wc115, wd115, hw115, G115, E115, hf115⟩ := id R115
          refine wp_go rfl rfl ?_
          refine wp_ret rfl rfl ?_
          exact kf _ _ rfl _ R115 ((((Fr.rf.tr F113 (fun _ z => z)).wr rfl).tr F114 (fun _ z => z)).tr F115 (fun _ z => z))
      · skip
        refine wp_go rfl rfl ?_
        rw [if_neg q50] at hsp
        refine wp_go rfl rfl ?_
        refine wp_go rfl rfl ?_
        refine wp_cv rfl rfl rfl A113 rfl rfl rfl ?_
        refine c_refL H hn (HT.fr F113 rfl) A113 ?_
        obtain rfl := Option.some.inj hsp
        refine wp_ret rfl rfl ?_
        exact kf _ _ rfl _ (show RS _ cl co tl rb lw 1 ((tP B n (j113) : Nat) : Int) (j113) from ⟨wc113, wd113, by omega, rfl, E113, by decide⟩) ((Fr.rf.tr F113 (fun _ z => z)).wr rfl)
    · skip
      subst e113
      dsimp only [sb] at hsp
      obtain rfl := Option.some.inj hsp
      obtain ⟨wy113, wx113, hw113, G113, E113, hf113⟩ := id R113
      refine wp_go rfl rfl ?_
      refine e_get rfl G113 rfl rfl ?_
      refine e_istn (L' := [xR 55, xI (o : Int), xI 2]) rfl rfl rfl ?_
      refine wp_go rfl rfl ?_
      refine e_get rfl G113 rfl rfl ?_
      refine wp_go rfl rfl ?_
      refine wp_go rfl rfl ?_
      refine wp_call rfl rfl rfl rfl ?_
      refine c_isWithin (fun q => absurd q (by omega)) (fun q => ?_)
      refine wp_go rfl rfl ?_
      refine wp_go rfl rfl ?_
      refine wp_go rfl rfl ?_
      refine wp_cv rfl rfl rfl G113 rfl rfl rfl ?_
      refine c_refS G113 hf113 ?_
      refine wp_ret rfl rfl ?_
      exact kf _ _ rfl _ R113 (Fr.rf.tr F113 (fun _ z => z))
  · skip
    rw [if_pos c6] at hsp
    have hlt := tK_lt H hn (show tK B n i ≠ 0 by omega)
    refine wp_go rfl rfl ?_
    refine wp_go rfl rfl ?_
    refine wp_cv rfl rfl rfl H55 rfl rfl rfl ?_
    refine c_opens (q := o) H hn HT (by omega) H55 (fun z11 => ?_) (fun z11 => ?_)
    · skip
      rw [if_neg (show ¬ 8 ≤ o by omega)] at hsp
      refine wp_go rfl rfl ?_
      refine wp_go rfl rfl ?_
      refine wp_go rfl rfl ?_
      refine wp_go rfl rfl ?_
      refine e_iadd rfl (by omega) ?_
      refine wp_cv rfl rfl rfl rfl rfl rfl rfl ?_
      rw [show ((o : Int) + 1) = ((o + 1 : Nat) : Int) by omega]
      obtain ⟨q116, hq116, hsp⟩ := sb_some hsp
      refine ih 7 (by decide) (o + 1) v (i + 1) q116 hq116 _ _ _ (wc) (wc) wd cl co tl rb 0 none (by omega) (by omega) HT.w5 rfl H56 (by omega) (fun z => absurd z (by decide)) (fun _ => rfl) (fun j116 V116 e116 h116 wc116 wd116 A116 E116 P116 T116 B116 J116 F116 => ?_) (fun fl116 k116 e116 h116 R116 F116 => ?_)
      · skip
        subst e116
        dsimp only [sb] at hsp
        refine wp_go rfl rfl ?_
        refine wp_go rfl rfl ?_
        refine wp_go rfl rfl ?_
        refine wp_cv rfl rfl rfl A116 rfl rfl rfl ?_
        refine c_say (wc := wc116) A116 E116 (by omega) (by omega) (fun _ => ?_) (fun z => absurd z (by omega))
        refine wp_ret rfl rfl ?_
        obtain rfl := Option.some.inj hsp
        exact kok _ _ rfl _ (wc116 + 1) (hc_u wd116 (wc116) (0 * 64 + 22)) rfl rfl (by omega) (fun t ht => (hu_n (by omega)).trans (T116 t ht)) (GC_not (B116.mono (Nat.le_refl _) (fun t h1 h2 => hu_n (by omega))) (J116 rfl) (by omega) hu_s (by omega)) (fun _ => GB_not (J116 rfl)) ((((Fr.rf.wr rfl).tr F116 (fun _ z => z)).wr rfl).wr rfl)
      · skip
        subst e116
        dsimp only [sb] at hsp
        obtain rfl := Option.some.inj hsp
        obtain ⟨wy116, wx116, hw116, G116, E116, hf116⟩ := id R116
        refine wp_go rfl rfl ?_
        refine wp_go rfl rfl ?_
        refine wp_go rfl rfl ?_
        refine wp_cv rfl rfl rfl G116 rfl rfl rfl ?_
        refine c_sayS R116 (by omega) (fun h117 R117 F117 => ?_)
        obtain ⟨wc117, wd117, hw117, G117, E117, hf117⟩ := id R117
        refine wp_ret rfl rfl ?_
        exact kf _ _ rfl _ R117 (((Fr.rf.wr rfl).tr F116 (fun _ z => z)).tr F117 (fun _ z => z))
    · skip
      rw [if_pos z11] at hsp
      obtain rfl := Option.some.inj hsp
      refine wp_go rfl rfl ?_
      refine wp_ret rfl rfl ?_
      exact kf _ _ rfl _ (show RS _ cl co tl rb lw 3 ((tP B n (i) : Nat) : Int) (i) from ⟨wc, wd, by omega, rfl, H56, by decide⟩) (Fr.rf.wr rfl)
set_option maxRecDepth 100000 in
theorem cn_ch {B : Nat → Int} {n : Nat} {lw : Int} (H : BY B) (hn : n ≤ 300) {f : Nat} (ih : ∀ m, m ≤ 9 → CON B n lw f m) {o : Nat} {v : ef} {i : Nat} {r : cnR} (hsp : sCh (tK B n) (tN B n) lw f o v i = some r) {d : Nat} {h : hc_H} {Q : List hc_V → hc_H → Prop} {wc : Nat} {wd : Nat → Int} {cl co : Int} {tl rb : hc_V} (ho : o ≤ 8) (hd : 1 ≤ d ∧ 10 + 10 * (8 - o) ≤ d) (HT : TOKH h B n) (H55 : h.2.2 55 = rdo (wc : Int) cl co tl rb lw (i : Int) (tK B n i) 0 (-1)) (H56 : h.2.2 56 = ar 300 wd) (hb : wc ≤ i ∧ i ≤ 300) (kok : KOK B n lw (6 + 5 * (8 - o)) false i wc wc wd cl co tl rb h r Q) (kf : KF B n lw cl co tl rb h r Q) : hc_wp (d + 1) mX3_readChoice 0 [xR 55, xI (o : Int), none, none] [] h Q := by
  have x0 : mx 0 = 0 := rfl
  have x1 : mx 1 = 1 := rfl
  have x2 : mx 2 = 2 := rfl
  have x3 : mx 3 = 1 := rfl
  have x4 : mx 4 = 2 := rfl
  have x5 : mx 5 = 5 := rfl
  have x6 : mx 6 = 4 := rfl
  have x7 : mx 7 = 3 := rfl
  have x8 : mx 8 = 5 := rfl
  have x9 : mx 9 = 4 := rfl
  unfold sCh at hsp
  obtain ⟨d, rfl⟩ : ∃ z, d = z + 9 := ⟨d - 9, by omega⟩
  refine wp_go rfl rfl ?_
  refine wp_go rfl rfl ?_
  refine wp_cv rfl rfl rfl H55 rfl rfl rfl ?_
  obtain ⟨q118, hq118, hsp⟩ := sb_some hsp
  refine ih 5 (by decide) (o) v (i) q118 hq118 _ _ _ (wc) (wc) wd cl co tl rb 0 none (by omega) (by omega) HT H55 H56 (by omega) (fun z => absurd z (by decide)) (fun _ => rfl) (fun j118 V118 e118 h118 wc118 wd118 A118 E118 P118 T118 B118 J118 F118 => ?_) (fun fl118 k118 e118 h118 R118 F118 => ?_)
  · skip
    subst e118
    dsimp only [sb] at hsp
    refine wp_go rfl rfl ?_
    refine wp_go rfl rfl ?_
    refine wp_cv rfl rfl rfl A118 rfl rfl rfl ?_
    refine c_expL H hn (HT.fr F118 rfl) (by omega) A118 (fun z8 => ?_) (fun z8 => ?_)
    · skip
      rw [if_pos z8] at hsp
      have hlt8 := tK_lt H hn (show tK B n (j118) ≠ 0 by rw [z8]; decide)
      refine wp_go rfl rfl ?_
      refine e_get rfl rfl rfl rfl ?_
      refine e_istn (L' := [xR 55, xI (o : Int), xI (wc118 : Int), none]) rfl rfl rfl ?_
      refine wp_go rfl rfl ?_
      refine wp_go rfl rfl ?_
      refine wp_go rfl rfl ?_
      refine wp_cv rfl rfl rfl rfl rfl rfl rfl ?_
      refine c_say (wc := wc118) rfl E118 (by omega) (by omega) (fun _ => ?_) (fun z => absurd z (by omega))
      refine wp_go rfl rfl ?_
      refine wp_go rfl rfl ?_
      refine wp_cv rfl rfl rfl rfl rfl rfl rfl ?_
      obtain ⟨q119, hq119, hsp⟩ := sb_some hsp
      refine ih 2 (by decide) (o) v (j118 + 1) q119 hq119 _ _ _ (wc118 + 1) (wc118 + 1) (hc_u wd118 (wc118) (0 * 64 + 53)) cl co tl rb 0 none (by omega) (by omega) ((HT.fr F118 rfl).w5.fr (((Fr.rf (l := [55, 56])).wr rfl).wr rfl) rfl) rfl rfl (by omega) (fun z => absurd z (by decide)) (fun _ => rfl) (fun j119 V119 e119 h119 wc119 wd119 A119 E119 P119 T119 B119 J119 F119 => ?_) (fun fl119 k119 e119 h119 R119 F119 => ?_)
      · skip
        subst e119
        dsimp only [sb] at hsp
        refine wp_go rfl rfl ?_
        refine wp_go rfl rfl ?_
        refine wp_cv rfl rfl rfl A119 rfl rfl rfl ?_
        refine c_expL H hn (((HT.fr F118 rfl).w5.fr (((Fr.rf (l := [55, 56])).wr rfl).wr rfl) rfl).fr F119 rfl) (by omega) A119 (fun z31 => ?_) (fun z31 => ?_)
        · skip
          rw [if_pos z31] at hsp
          have hlt31 := tK_lt H hn (show tK B n (j119) ≠ 0 by rw [z31]; decide)
          refine wp_go rfl rfl ?_
          refine e_get rfl rfl rfl rfl ?_
          refine e_istn (L' := [xR 55, xI (o : Int), xI (wc118 : Int), xI (wc119 : Int)]) rfl rfl rfl ?_
          refine wp_go rfl rfl ?_
          refine wp_go rfl rfl ?_
          refine wp_go rfl rfl ?_
          refine wp_cv rfl rfl rfl rfl rfl rfl rfl ?_
          refine c_say (wc := wc119) rfl E119 (by omega) (by omega) (fun _ => ?_) (fun z => absurd z (by omega))
          refine wp_go rfl rfl ?_
          refine wp_go rfl rfl ?_
          refine wp_go rfl rfl ?_
          refine wp_cv rfl rfl rfl rfl rfl rfl rfl ?_
          refine c_lead (wc := wc119 + 1) (fm := wc118) rfl rfl (by omega) (by omega) (fun _ _ => ?_) (fun z => absurd (show wc118 < wc119 + 1 ∧ wc118 < 300 by omega) z)
          refine wp_go rfl rfl ?_
          refine wp_go rfl rfl ?_
          refine wp_cv rfl rfl rfl rfl rfl rfl rfl ?_
          obtain ⟨q120, hq120, hsp⟩ := sb_some hsp
          refine ih 2 (by decide) (o) v (j119 + 1) q120 hq120 _ _ _ (wc119 + 1) (wc119 + 1) (hc_u (hc_u wd119 (wc119) (0 * 64 + 54)) (wc118) (((wc119 + 1 : Nat) : Int) * 64 + 53)) cl co tl rb 0 none (by omega) (by omega) (((((HT.fr F118 rfl).w5.fr (((Fr.rf (l := [55, 56])).wr rfl).wr rfl) rfl).fr F119 rfl).w5.fr (((Fr.rf (l := [55, 56])).wr rfl).wr rfl) rfl).fr ((Fr.rf (l := [55, 56])).wr rfl) rfl) rfl rfl (by omega) (fun z => absurd z (by decide)) (fun _ => rfl) (fun j120 V120 e120 h120 wc120 wd120 A120 E120 P120 T120 B120 J120 F120 => ?_) (fun fl120 k120 e120 h120 R120 F120 => ?_)
          · skip
            subst e120
            dsimp only [sb] at hsp
            refine wp_go rfl rfl ?_
            refine wp_go rfl rfl ?_
            refine wp_go rfl rfl ?_
            refine wp_cv rfl rfl rfl A120 rfl rfl rfl ?_
            refine c_lead (wc := wc120) (fm := wc119) A120 E120 (by omega) (by omega) (fun _ _ => ?_) (fun z => absurd (show wc119 < wc120 ∧ wc119 < 300 by omega) z)
            refine wp_go rfl rfl ?_
            refine wp_go rfl rfl ?_
            refine wp_cv rfl rfl rfl A120 rfl rfl rfl ?_
            refine c_expL H hn (((((((HT.fr F118 rfl).w5.fr (((Fr.rf (l := [55, 56])).wr rfl).wr rfl) rfl).fr F119 rfl).w5.fr (((Fr.rf (l := [55, 56])).wr rfl).wr rfl) rfl).fr ((Fr.rf (l := [55, 56])).wr rfl) rfl).fr F120 rfl).fr ((Fr.rf (l := [55, 56])).wr rfl) rfl) (by omega) A120 (fun z68 => ?_) (fun z68 => ?_)
            · skip
              rw [if_pos z68] at hsp
              have hlt68 := tK_lt H hn (show tK B n (j120) ≠ 0 by rw [z68]; decide)
              refine wp_ret rfl rfl ?_
              have g1 : ∀ t, t < wc118 → (hc_u wd120 (wc119) (((wc120 : Nat) : Int) * 64 + 54)) t = wd118 t := fun t ht => (hu_n (by omega)).trans ((T120 t (by omega)).trans ((hu_n (by omega)).trans ((hu_n (by omega)).trans ((T119 t (by omega)).trans (hu_n (by omega))))))
              have g2 : ∀ t, wc118 + 1 ≤ t → t < wc119 → (hc_u wd120 (wc119) (((wc120 : Nat) : Int) * 64 + 54)) t = wd119 t := fun t h1 h2 => (hu_n (by omega)).trans ((T120 t (by omega)).trans ((hu_n (by omega)).trans (hu_n (by omega))))
              have g3 : ∀ t, wc119 + 1 ≤ t → t < wc120 → (hc_u wd120 (wc119) (((wc120 : Nat) : Int) * 64 + 54)) t = wd120 t := fun t h1 h2 => hu_n (by omega)
              have g4 : (hc_u wd120 (wc119) (((wc120 : Nat) : Int) * 64 + 54)) wc118 = ((wc119 : Int) + 1) * 64 + 53 := by
                refine (hu_n (by omega)).trans ((T120 wc118 (by omega)).trans (hu_s.trans ?_))
                omega
              have g5 : (hc_u wd120 (wc119) (((wc120 : Nat) : Int) * 64 + 54)) wc119 = (wc120 : Int) * 64 + 54 := hu_s
              obtain rfl := Option.some.inj hsp
              exact kok _ _ rfl _ (wc120) (hc_u wd120 (wc119) (((wc120 : Nat) : Int) * 64 + 54)) rfl rfl (by omega) (fun t ht => (g1 t (by omega)).trans (T118 t ht)) (GC_if (B118.mono (Nat.le_refl _) (fun t h1 h2 => g1 t h2)) (B119.mono (Nat.le_refl _) g2) (B120.mono (Nat.le_refl _) g3) (by omega) (by omega) (by omega) g4 g5 (by omega) (by omega) (by omega)) (fun z => absurd z (by decide)) ((((((((((((Fr.rf.tr F118 (fun _ z => z)).wr rfl).wr rfl).wr rfl).tr F119 (fun _ z => z)).wr rfl).wr rfl).wr rfl).wr rfl).tr F120 (fun _ z => z)).wr rfl).wr rfl)
            · skip
              rw [if_neg z68] at hsp
              obtain rfl := Option.some.inj hsp
              refine wp_ret rfl rfl ?_
              exact kf _ _ rfl _ (show RS _ cl co tl rb lw 1 ((tP B n (j120) : Nat) : Int) (j120) from ⟨wc120, (hc_u wd120 (wc119) (((wc120 : Nat) : Int) * 64 + 54)), by omega, rfl, rfl, by decide⟩) ((((((((((((Fr.rf.tr F118 (fun _ z => z)).wr rfl).wr rfl).wr rfl).tr F119 (fun _ z => z)).wr rfl).wr rfl).wr rfl).wr rfl).tr F120 (fun _ z => z)).wr rfl).wr rfl)
          · skip
            subst e120
            dsimp only [sb] at hsp
            obtain rfl := Option.some.inj hsp
            obtain ⟨wy120, wx120, hw120, G120, E120, hf120⟩ := id R120
            refine wp_go rfl rfl ?_
            refine wp_go rfl rfl ?_
            refine wp_go rfl rfl ?_
            refine wp_cv rfl rfl rfl G120 rfl rfl rfl ?_
            refine c_leadS R120 (by omega) (fun h121 R121 F121 => ?_)
            obtain ⟨wc121, wd121, hw121, G121, E121, hf121⟩ := id R121
            refine wp_go rfl rfl ?_
            refine wp_go rfl rfl ?_
            refine wp_cv rfl rfl rfl G121 rfl rfl rfl ?_
            refine c_expS G121 hf121 (by decide) ?_
            refine wp_ret rfl rfl ?_
            exact kf _ _ rfl _ R121 (((((((((((Fr.rf.tr F118 (fun _ z => z)).wr rfl).wr rfl).wr rfl).tr F119 (fun _ z => z)).wr rfl).wr rfl).wr rfl).wr rfl).tr F120 (fun _ z => z)).tr F121 (fun _ z => z))
        · skip
          rw [if_neg z31] at hsp
          obtain rfl := Option.some.inj hsp
          refine wp_go rfl rfl ?_
          refine e_get rfl rfl rfl rfl ?_
          refine e_istn (L' := [xR 55, xI (o : Int), xI (wc118 : Int), xI (wc119 : Int)]) rfl rfl rfl ?_
          refine wp_go rfl rfl ?_
          refine wp_go rfl rfl ?_
          refine wp_go rfl rfl ?_
          refine wp_cv rfl rfl rfl rfl rfl rfl rfl ?_
          refine c_sayS (show RS _ cl co tl rb lw 1 ((tP B n (j119) : Nat) : Int) (j119) from ⟨wc119, wd119, by omega, rfl, E119, by decide⟩) (by omega) (fun h122 R122 F122 => ?_)
          obtain ⟨wc122, wd122, hw122, G122, E122, hf122⟩ := id R122
          refine wp_go rfl rfl ?_
          refine wp_go rfl rfl ?_
          refine wp_go rfl rfl ?_
          refine wp_cv rfl rfl rfl G122 rfl rfl rfl ?_
          refine c_leadS R122 (by omega) (fun h123 R123 F123 => ?_)
          obtain ⟨wc123, wd123, hw123, G123, E123, hf123⟩ := id R123
          refine wp_go rfl rfl ?_
          refine wp_go rfl rfl ?_
          refine wp_cv rfl rfl rfl G123 rfl rfl rfl ?_
          refine c_sumS R123 (fun h124 R124 F124 => ?_)
          obtain ⟨wc124, wd124, hw124, G124, E124, hf124⟩ := id R124
          refine wp_go rfl rfl ?_
          refine wp_go rfl rfl ?_
          refine wp_go rfl rfl ?_
          refine wp_cv rfl rfl rfl G124 rfl rfl rfl ?_
          refine c_leadS R124 (by omega) (fun h125 R125 F125 => ?_)
          obtain ⟨wc125, wd125, hw125, G125, E125, hf125⟩ := id R125
          refine wp_go rfl rfl ?_
          refine wp_go rfl rfl ?_
          refine wp_cv rfl rfl rfl G125 rfl rfl rfl ?_
          refine c_expS G125 hf125 (by decide) ?_
          refine wp_ret rfl rfl ?_
          exact kf _ _ rfl _ R125 ((((((((((Fr.rf.tr F118 (fun _ z => z)).wr rfl).wr rfl).wr rfl).tr F119 (fun _ z => z)).wr rfl).tr F122 (fun _ z => z)).tr F123 (fun _ z => z)).tr F124 (fun _ z => z)).tr F125 (fun _ z => z))
      · skip
        subst e119
        dsimp only [sb] at hsp
        obtain rfl := Option.some.inj hsp
        obtain ⟨wy119, wx119, hw119, G119, E119, hf119⟩ := id R119
        refine wp_go rfl rfl ?_
        refine wp_go rfl rfl ?_
        refine wp_cv rfl rfl rfl G119 rfl rfl rfl ?_
        refine c_expS G119 hf119 (by decide) ?_
        refine wp_go rfl rfl ?_
        refine e_get rfl G119 rfl rfl ?_
        refine e_istn (L' := [xR 55, xI (o : Int), xI (wc118 : Int), xI (wy119 : Int)]) rfl rfl rfl ?_
        refine wp_go rfl rfl ?_
        refine wp_go rfl rfl ?_
        refine wp_go rfl rfl ?_
        refine wp_cv rfl rfl rfl G119 rfl rfl rfl ?_
        refine c_sayS R119 (by omega) (fun h126 R126 F126 => ?_)
        obtain ⟨wc126, wd126, hw126, G126, E126, hf126⟩ := id R126
        refine wp_go rfl rfl ?_
        refine wp_go rfl rfl ?_
        refine wp_go rfl rfl ?_
        refine wp_cv rfl rfl rfl G126 rfl rfl rfl ?_
        refine c_leadS R126 (by omega) (fun h127 R127 F127 => ?_)
        obtain ⟨wc127, wd127, hw127, G127, E127, hf127⟩ := id R127
        refine wp_go rfl rfl ?_
        refine wp_go rfl rfl ?_
        refine wp_cv rfl rfl rfl G127 rfl rfl rfl ?_
        refine c_sumS R127 (fun h128 R128 F128 => ?_)
        obtain ⟨wc128, wd128, hw128, G128, E128, hf128⟩ := id R128
        refine wp_go rfl rfl ?_
        refine wp_go rfl rfl ?_
        refine wp_go rfl rfl ?_
        refine wp_cv rfl rfl rfl G128 rfl rfl rfl ?_
        refine c_leadS R128 (by omega) (fun h129 R129 F129 => ?_)
        obtain ⟨wc129, wd129, hw129, G129, E129, hf129⟩ := id R129
        refine wp_go rfl rfl ?_
        refine wp_go rfl rfl ?_
        refine wp_cv rfl rfl rfl G129 rfl rfl rfl ?_
        refine c_expS G129 hf129 (by decide) ?_
        refine wp_ret rfl rfl ?_
        exact kf _ _ rfl _ R129 (((((((((Fr.rf.tr F118 (fun _ z => z)).wr rfl).wr rfl).wr rfl).tr F119 (fun _ z => z)).tr F126 (fun _ z => z)).tr F127 (fun _ z => z)).tr F128 (fun _ z => z)).tr F129 (fun _ z => z))
    · skip
      rw [if_neg z8] at hsp
      obtain rfl := Option.some.inj hsp
      refine wp_go rfl rfl ?_
      refine e_get rfl rfl rfl rfl ?_
      refine e_istn (L' := [xR 55, xI (o : Int), xI (wc118 : Int), none]) rfl rfl rfl ?_
      refine wp_go rfl rfl ?_
      refine wp_go rfl rfl ?_
      refine wp_go rfl rfl ?_
      refine wp_cv rfl rfl rfl rfl rfl rfl rfl ?_
      refine c_sayS (show RS _ cl co tl rb lw 1 ((tP B n (j118) : Nat) : Int) (j118) from ⟨wc118, wd118, by omega, rfl, E118, by decide⟩) (by omega) (fun h130 R130 F130 => ?_)
      obtain ⟨wc130, wd130, hw130, G130, E130, hf130⟩ := id R130
      refine wp_go rfl rfl ?_
      refine wp_go rfl rfl ?_
      refine wp_cv rfl rfl rfl G130 rfl rfl rfl ?_
      refine c_sumS R130 (fun h131 R131 F131 => ?_)
      obtain ⟨wc131, wd131, hw131, G131, E131, hf131⟩ := id R131
      refine wp_go rfl rfl ?_
      refine wp_go rfl rfl ?_
      refine wp_cv rfl rfl rfl G131 rfl rfl rfl ?_
      refine c_expS G131 hf131 (by decide) ?_
      refine wp_go rfl rfl ?_
      refine e_get rfl G131 rfl rfl ?_
      refine e_istn (L' := [xR 55, xI (o : Int), xI (wc118 : Int), xI (wc131 : Int)]) rfl rfl rfl ?_
      refine wp_go rfl rfl ?_
      refine wp_go rfl rfl ?_
      refine wp_go rfl rfl ?_
      refine wp_cv rfl rfl rfl G131 rfl rfl rfl ?_
      refine c_sayS R131 (by omega) (fun h132 R132 F132 => ?_)
      obtain ⟨wc132, wd132, hw132, G132, E132, hf132⟩ := id R132
      refine wp_go rfl rfl ?_
      refine wp_go rfl rfl ?_
      refine wp_go rfl rfl ?_
      refine wp_cv rfl rfl rfl G132 rfl rfl rfl ?_
      refine c_leadS R132 (by omega) (fun h133 R133 F133 => ?_)
      obtain ⟨wc133, wd133, hw133, G133, E133, hf133⟩ := id R133
      refine wp_go rfl rfl ?_
      refine wp_go rfl rfl ?_
      refine wp_cv rfl rfl rfl G133 rfl rfl rfl ?_
      refine c_sumS R133 (fun h134 R134 F134 => ?_)
      obtain ⟨wc134, wd134, hw134, G134, E134, hf134⟩ := id R134
      refine wp_go rfl rfl ?_
      refine wp_go rfl rfl ?_
      refine wp_go rfl rfl ?_
      refine wp_cv rfl rfl rfl G134 rfl rfl rfl ?_
      refine c_leadS R134 (by omega) (fun h135 R135 F135 => ?_)
      obtain ⟨wc135, wd135, hw135, G135, E135, hf135⟩ := id R135
      refine wp_go rfl rfl ?_
      refine wp_go rfl rfl ?_
      refine wp_cv rfl rfl rfl G135 rfl rfl rfl ?_
      refine c_expS G135 hf135 (by decide) ?_
      refine wp_ret rfl rfl ?_
      exact kf _ _ rfl _ R135 ((((((((Fr.rf.tr F118 (fun _ z => z)).wr rfl).tr F130 (fun _ z => z)).tr F131 (fun _ z => z)).tr F132 (fun _ z => z)).tr F133 (fun _ z => z)).tr F134 (fun _ z => z)).tr F135 (fun _ z => z))
  · skip
    subst e118
    dsimp only [sb] at hsp
    obtain rfl := Option.some.inj hsp
    obtain ⟨wy118, wx118, hw118, G118, E118, hf118⟩ := id R118
    refine wp_go rfl rfl ?_
    refine wp_go rfl rfl ?_
    refine wp_cv rfl rfl rfl G118 rfl rfl rfl ?_
    refine c_expS G118 hf118 (by decide) ?_
    refine wp_go rfl rfl ?_
    refine e_get rfl G118 rfl rfl ?_
    refine e_istn (L' := [xR 55, xI (o : Int), xI (wy118 : Int), none]) rfl rfl rfl ?_
    refine wp_go rfl rfl ?_
    refine wp_go rfl rfl ?_
    refine wp_go rfl rfl ?_
    refine wp_cv rfl rfl rfl G118 rfl rfl rfl ?_
    refine c_sayS R118 (by omega) (fun h136 R136 F136 => ?_)
    obtain ⟨wc136, wd136, hw136, G136, E136, hf136⟩ := id R136
    refine wp_go rfl rfl ?_
    refine wp_go rfl rfl ?_
    refine wp_cv rfl rfl rfl G136 rfl rfl rfl ?_
    refine c_sumS R136 (fun h137 R137 F137 => ?_)
    obtain ⟨wc137, wd137, hw137, G137, E137, hf137⟩ := id R137
    refine wp_go rfl rfl ?_
    refine wp_go rfl rfl ?_
    refine wp_cv rfl rfl rfl G137 rfl rfl rfl ?_
    refine c_expS G137 hf137 (by decide) ?_
    refine wp_go rfl rfl ?_
    refine e_get rfl G137 rfl rfl ?_
    refine e_istn (L' := [xR 55, xI (o : Int), xI (wy118 : Int), xI (wc137 : Int)]) rfl rfl rfl ?_
    refine wp_go rfl rfl ?_
    refine wp_go rfl rfl ?_
    refine wp_go rfl rfl ?_
    refine wp_cv rfl rfl rfl G137 rfl rfl rfl ?_
    refine c_sayS R137 (by omega) (fun h138 R138 F138 => ?_)
    obtain ⟨wc138, wd138, hw138, G138, E138, hf138⟩ := id R138
    refine wp_go rfl rfl ?_
    refine wp_go rfl rfl ?_
    refine wp_go rfl rfl ?_
    refine wp_cv rfl rfl rfl G138 rfl rfl rfl ?_
    refine c_leadS R138 (by omega) (fun h139 R139 F139 => ?_)
    obtain ⟨wc139, wd139, hw139, G139, E139, hf139⟩ := id R139
    refine wp_go rfl rfl ?_
    refine wp_go rfl rfl ?_
    refine wp_cv rfl rfl rfl G139 rfl rfl rfl ?_
    refine c_sumS R139 (fun h140 R140 F140 => ?_)
    obtain ⟨wc140, wd140, hw140, G140, E140, hf140⟩ := id R140
    refine wp_go rfl rfl ?_
    refine wp_go rfl rfl ?_
    refine wp_go rfl rfl ?_
    refine wp_cv rfl rfl rfl G140 rfl rfl rfl ?_
    refine c_leadS R140 (by omega) (fun h141 R141 F141 => ?_)
    obtain ⟨wc141, wd141, hw141, G141, E141, hf141⟩ := id R141
    refine wp_go rfl rfl ?_
    refine wp_go rfl rfl ?_
    refine wp_cv rfl rfl rfl G141 rfl rfl rfl ?_
    refine c_expS G141 hf141 (by decide) ?_
    refine wp_ret rfl rfl ?_
    exact kf _ _ rfl _ R141 (((((((Fr.rf.tr F118 (fun _ z => z)).tr F136 (fun _ z => z)).tr F137 (fun _ z => z)).tr F138 (fun _ z => z)).tr F139 (fun _ z => z)).tr F140 (fun _ z => z)).tr F141 (fun _ z => z))
set_option maxRecDepth 100000 in
theorem c_nameL {d : Nat} {h : hc_H} {Q : List hc_V → hc_H → Prop} {B : Nat → Int} {n i wc : Nat} {cl co lw : Int} {tl rb : hc_V} {wd : Nat → Int} (H : BY B) (hn : n ≤ 300) (HT : TOKH h B n) (hw : wc ≤ i) (hi : i ≤ 300) (hlw : lw = 10 ∨ lw = 11) (H55 : h.2.2 55 = rdo (wc : Int) cl co tl rb lw (i : Int) (tK B n i) 0 (-1)) (H56 : h.2.2 56 = ar 300 wd) (k1 : ¬ (23 ≤ tK B n i ∧ tK B n i ≤ 29) → Q [] (hc_wr h 55 (rdo (wc : Int) cl co tl rb lw (i : Int) 2 1 ((tP B n i : Nat) : Int)))) (k5 : (23 ≤ tK B n i ∧ tK B n i ≤ 29) → nok lw (tK B n i) = false → Q [] (hc_wr h 55 (rdo (wc : Int) cl co tl rb lw (i : Int) 2 5 ((tP B n i : Nat) : Int)))) (ky : (23 ≤ tK B n i ∧ tK B n i ≤ 29) → nok lw (tK B n i) = true → Q [] (hc_wr (hc_wr h 56 (ar 300 (hc_u wd wc (tK B n i * 64 + 4)))) 55 (rdo ((wc + 1 : Nat) : Int) cl co tl rb lw ((i + 1 : Nat) : Int) (tK B n (i + 1)) 0 (-1)))) : hc_wp (d + 2) mX3_readName 0 [xR 55] [] h Q := by
  refine wp_go rfl rfl ?_
  refine e_get rfl H55 rfl rfl ?_
  refine wp_go rfl rfl ?_
  refine wp_go rfl rfl ?_
  refine wp_call rfl rfl rfl rfl ?_
  refine c_isWithin  (fun q8 => ?_) (fun q8 => ?_)
  · skip
    refine wp_go rfl rfl ?_
    refine wp_go rfl rfl ?_
    refine e_get rfl H55 rfl rfl ?_
    refine wp_go rfl rfl ?_
    refine e_cne rfl (fun c28 => ?_) (fun c28 => ?_)
    · skip
      refine wp_go rfl rfl ?_
      refine e_get rfl H55 rfl rfl ?_
      refine wp_go rfl rfl ?_
      refine e_cne rfl (fun c46 => ?_) (fun c46 => ?_)
      · skip
        refine wp_go rfl rfl ?_
        refine wp_go rfl rfl ?_
        refine wp_go rfl rfl ?_
        refine e_get rfl H55 rfl rfl ?_
        refine wp_cv rfl rfl rfl H55 rfl rfl rfl ?_
        have hlt := tK_lt H hn (show tK B n i ≠ 0 by omega)
        refine c_say H55 H56 (by omega) (by omega) (fun _ => ?_) (fun z => absurd z (by omega))
        refine wp_go rfl rfl ?_
        refine wp_cv rfl rfl rfl rfl rfl rfl rfl ?_
        refine c_advL H hn (HT.fr (((Fr.rf (l := [55, 56])).wr rfl).wr rfl) rfl) (by omega) rfl ?_
        refine wp_ret rfl rfl ?_
        rw [hw_2]
        exact ky q8 (by unfold nok; simp; omega)
      · skip
        refine wp_go rfl rfl ?_
        refine e_get rfl H55 rfl rfl ?_
        refine wp_go rfl rfl ?_
        refine e_ceq rfl (fun c55 => ?_) (fun c55 => ?_)
        · skip
          refine wp_go rfl rfl ?_
          refine wp_go rfl rfl ?_
          refine wp_cv rfl rfl rfl H55 rfl rfl rfl ?_
          refine c_refL H hn HT H55 ?_
          refine wp_go rfl rfl ?_
          refine wp_ret rfl rfl ?_
          exact k5 q8 (by unfold nok; simp; omega)
        · skip
          refine wp_go rfl rfl ?_
          refine e_get rfl H55 rfl rfl ?_
          refine wp_go rfl rfl ?_
          refine e_cne rfl (fun c64 => ?_) (fun c64 => ?_)
          · skip
            refine wp_go rfl rfl ?_
            refine wp_go rfl rfl ?_
            refine wp_go rfl rfl ?_
            refine e_get rfl H55 rfl rfl ?_
            refine wp_cv rfl rfl rfl H55 rfl rfl rfl ?_
            have hlt := tK_lt H hn (show tK B n i ≠ 0 by omega)
            refine c_say H55 H56 (by omega) (by omega) (fun _ => ?_) (fun z => absurd z (by omega))
            refine wp_go rfl rfl ?_
            refine wp_cv rfl rfl rfl rfl rfl rfl rfl ?_
            refine c_advL H hn (HT.fr (((Fr.rf (l := [55, 56])).wr rfl).wr rfl) rfl) (by omega) rfl ?_
            refine wp_ret rfl rfl ?_
            rw [hw_2]
            exact ky q8 (by unfold nok; simp; omega)
          · skip
            refine wp_go rfl rfl ?_
            refine wp_go rfl rfl ?_
            refine wp_cv rfl rfl rfl H55 rfl rfl rfl ?_
            refine c_refL H hn HT H55 ?_
            refine wp_go rfl rfl ?_
            refine wp_ret rfl rfl ?_
            exact k5 q8 (by unfold nok; simp; omega)
    · skip
      refine wp_go rfl rfl ?_
      refine e_get rfl H55 rfl rfl ?_
      refine wp_go rfl rfl ?_
      refine e_cge rfl (fun c37 => ?_) (fun c37 => ?_)
      · skip
        refine wp_go rfl rfl ?_
        refine wp_go rfl rfl ?_
        refine wp_cv rfl rfl rfl H55 rfl rfl rfl ?_
        refine c_refL H hn HT H55 ?_
        refine wp_go rfl rfl ?_
        refine wp_ret rfl rfl ?_
        exact k5 q8 (by unfold nok; simp; omega)
      · skip
        refine wp_go rfl rfl ?_
        refine e_get rfl H55 rfl rfl ?_
        refine wp_go rfl rfl ?_
        refine e_cne rfl (fun c46 => ?_) (fun c46 => ?_)
        · skip
          refine wp_go rfl rfl ?_
          refine wp_go rfl rfl ?_
          refine wp_go rfl rfl ?_
          refine e_get rfl H55 rfl rfl ?_
          refine wp_cv rfl rfl rfl H55 rfl rfl rfl ?_
          have hlt := tK_lt H hn (show tK B n i ≠ 0 by omega)
          refine c_say H55 H56 (by omega) (by omega) (fun _ => ?_) (fun z => absurd z (by omega))
          refine wp_go rfl rfl ?_
          refine wp_cv rfl rfl rfl rfl rfl rfl rfl ?_
          refine c_advL H hn (HT.fr (((Fr.rf (l := [55, 56])).wr rfl).wr rfl) rfl) (by omega) rfl ?_
          refine wp_ret rfl rfl ?_
          rw [hw_2]
          exact ky q8 (by unfold nok; simp; omega)
        · skip
          refine wp_go rfl rfl ?_
          refine e_get rfl H55 rfl rfl ?_
          refine wp_go rfl rfl ?_
          refine e_ceq rfl (fun c55 => ?_) (fun c55 => ?_)
          · skip
            refine wp_go rfl rfl ?_
            refine wp_go rfl rfl ?_
            refine wp_cv rfl rfl rfl H55 rfl rfl rfl ?_
            refine c_refL H hn HT H55 ?_
            refine wp_go rfl rfl ?_
            refine wp_ret rfl rfl ?_
            exact k5 q8 (by unfold nok; simp; omega)
          · skip
            refine wp_go rfl rfl ?_
            refine e_get rfl H55 rfl rfl ?_
            refine wp_go rfl rfl ?_
            refine e_cne rfl (fun c64 => ?_) (fun c64 => ?_)
            · skip
              refine wp_go rfl rfl ?_
              refine wp_go rfl rfl ?_
              refine wp_go rfl rfl ?_
              refine e_get rfl H55 rfl rfl ?_
              refine wp_cv rfl rfl rfl H55 rfl rfl rfl ?_
              have hlt := tK_lt H hn (show tK B n i ≠ 0 by omega)
              refine c_say H55 H56 (by omega) (by omega) (fun _ => ?_) (fun z => absurd z (by omega))
              refine wp_go rfl rfl ?_
              refine wp_cv rfl rfl rfl rfl rfl rfl rfl ?_
              refine c_advL H hn (HT.fr (((Fr.rf (l := [55, 56])).wr rfl).wr rfl) rfl) (by omega) rfl ?_
              refine wp_ret rfl rfl ?_
              rw [hw_2]
              exact ky q8 (by unfold nok; simp; omega)
            · skip
              refine wp_go rfl rfl ?_
              refine wp_go rfl rfl ?_
              refine wp_cv rfl rfl rfl H55 rfl rfl rfl ?_
              refine c_refL H hn HT H55 ?_
              refine wp_go rfl rfl ?_
              refine wp_ret rfl rfl ?_
              exact k5 q8 (by unfold nok; simp; omega)
  · skip
    refine wp_go rfl rfl ?_
    refine wp_go rfl rfl ?_
    refine wp_go rfl rfl ?_
    refine wp_cv rfl rfl rfl H55 rfl rfl rfl ?_
    refine c_refL H hn HT H55 ?_
    refine wp_go rfl rfl ?_
    refine wp_ret rfl rfl ?_
    exact k1 q8
