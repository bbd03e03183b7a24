/-! the class: Town, seventh part: kept steps as a row of rows; taking back; texts and their clauses -/
def sgt (fs : Int) (rs : Nat → Int) (i p : Nat) : Int := rs (Int.toNat (((fs + (i : Int)) % 30) * 11) + p)
def nrow (mk : Nat → Int) (dy x wt : Int) (p : Nat) : Int := if p < 8 then mk p else if p = 8 then dy else if p = 9 then x else wt
theorem krw_new {fs ct dy x wt : Int} {mk rs : Nat → Int} {m : Int} {p : Nat} (hm : m = (fs + ct) % 30) (hp : p < 11) : krw fs ct mk rs dy x wt (Int.toNat (m * 11) + p) = nrow mk dy x wt p := by
  have h0 : 0 ≤ m := by omega
  unfold krw kp_rows
  rw [← hm]
  unfold hc_u hc_cpy nrow
  by_cases a : p < 8
  · rw [if_neg (by omega), if_neg (by omega), if_neg (by omega), if_pos (by omega), if_pos a]
    congr 1
    omega
  · rw [if_neg a]
    by_cases b : p = 8
    · rw [if_neg (by omega), if_neg (by omega), if_pos (by omega), if_pos b]
    · rw [if_neg b]
      by_cases c : p = 9
      · rw [if_neg (by omega), if_pos (by omega), if_pos c]
      · rw [if_pos (by omega), if_neg c]
theorem krw_old {fs ct dy x wt : Int} {mk rs : Nat → Int} {m : Int} {p : Nat} (hm : m ≠ (fs + ct) % 30) (h0 : 0 ≤ m) (hp : p < 11) : krw fs ct mk rs dy x wt (Int.toNat (m * 11) + p) = rs (Int.toNat (m * 11) + p) := by
  unfold krw kp_rows
  obtain ⟨r, hr⟩ : ∃ r, r = (fs + ct) % 30 := ⟨_, rfl⟩
  have h1 : 0 ≤ r := by omega
  rw [← hr] at hm ⊢
  unfold hc_u hc_cpy
  rw [if_neg (by omega), if_neg (by omega), if_neg (by omega), if_neg (by omega)]
theorem sgt_new {fs ct dy x wt : Int} {mk rs : Nat → Int} {p : Nat} (H : FT fs ct) (hp : p < 11) : sgt (kfs fs ct) (krw fs ct mk rs dy x wt) (Int.toNat (kct ct) - 1) p = nrow mk dy x wt p := by
  obtain ⟨h1, h2, h3, h4⟩ := H
  unfold sgt
  refine krw_new ?_ hp
  unfold kfs kct
  by_cases c : ct < 30
  · rw [if_pos c, if_pos c]
    congr 1
    omega
  · rw [if_neg c, if_neg c]
    omega
theorem sgt_old {fs ct dy x wt : Int} {mk rs : Nat → Int} {i p : Nat} (H : FT fs ct) (hi : (i : Int) + 1 < kct ct) (hp : p < 11) : sgt (kfs fs ct) (krw fs ct mk rs dy x wt) i p = sgt fs rs (if ct < 30 then i else i + 1) p := by
  obtain ⟨h1, h2, h3, h4⟩ := H
  unfold sgt
  unfold kct at hi
  unfold kfs
  by_cases c : ct < 30
  · rw [if_pos c] at hi ⊢
    rw [if_pos c]
    exact krw_old (by omega) (by omega) hp
  · rw [if_neg c] at hi ⊢
    rw [if_neg c, krw_old (by omega) (by omega) hp]
    rw [show ((fs + 1) % 30 + (i : Int)) % 30 = (fs + ((i + 1 : Nat) : Int)) % 30 by omega]
def rOK (nf : Nat) (r : Nat → Int) : Prop := MK nf r ∧ (0 ≤ r 8 ∧ r 8 ≤ 999) ∧ (0 ≤ r 9 ∧ r 9 < 90015) ∧ (r 10 = 0 ∨ r 10 = 1)
theorem smk_eq {a b : Nat → Int} : ∀ n : Nat, (∀ j, j < n → a j = b j) → smk a n = smk b n := by
  intro n
  induction n with
  | zero => intro _; rfl
  | succ n ih =>
    intro hj
    simp only [smk]
    rw [ih (fun j hj2 => hj j (by omega)), hj n (by omega)]
theorem MK.eq {nf : Nat} {a b : Nat → Int} (H : MK nf a) (h : ∀ j, j < 8 → b j = a j) : MK nf b := by
  obtain ⟨h1, h2, h3⟩ := H
  refine ⟨fun j hj => ?_, fun j hj1 hj2 => ?_, ?_⟩
  · rw [h j hj]
    exact h1 j hj
  · rw [h j hj2]
    exact h2 j hj1 hj2
  · rw [smk_eq 8 h]
    exact h3
theorem rOK.eq {nf : Nat} {a b : Nat → Int} (H : rOK nf a) (h : ∀ j, j < 11 → b j = a j) : rOK nf b := by
  obtain ⟨h1, h2, h3, h4⟩ := H
  refine ⟨h1.eq (fun j hj => h j (by omega)), ?_, ?_, ?_⟩
  · rw [h 8 (by omega)]
    exact h2
  · rw [h 9 (by omega)]
    exact h3
  · rw [h 10 (by omega)]
    exact h4
def RK (s : cT) : Prop := ∀ i : Nat, (i : Int) < s.ct → rOK s.nf (sgt s.fs s.rs i)
theorem nrow_ok {s : cT} (H : cOK s) : rOK s.nf (nrow s.mk s.dy s.x s.wt) := by
  obtain ⟨h1, h2, h3, h4, h5, h6, h7, h8⟩ := H
  refine ⟨h2.eq (fun j hj => ?_), h4, h6, h7⟩
  unfold nrow
  rw [if_pos hj]
theorem RK.keep' {s : cT} (hs : cOK s) (H : RK s) {i : Nat} (hi : (i : Int) < kct s.ct) : rOK s.nf (sgt (kfs s.fs s.ct) (krw s.fs s.ct s.mk s.rs s.dy s.x s.wt) i) := by
  have h8 := hs.2.2.2.2.2.2.2
  by_cases c : (i : Int) + 1 < kct s.ct
  · refine rOK.eq (H (if s.ct < 30 then i else i + 1) ?_) (fun p hp => sgt_old h8 c hp)
    unfold kct at c
    split <;> rename_i q
    · rw [if_pos q] at c
      omega
    · rw [if_neg q] at c
      omega
  · refine rOK.eq (nrow_ok hs) (fun p hp => ?_)
    rw [show i = Int.toNat (kct s.ct) - 1 by omega]
    exact sgt_new h8 hp
theorem RK.kep {s : cT} {mk : Nat → Int} (hs : cOK s) (H : RK s) : RK (kepS s mk) := fun _ hi => RK.keep' hs H hi
theorem RK.day {s : cT} {fr : Option ef} (hs : cOK s) (H : RK s) : RK (dayS fr s) := fun _ hi => RK.keep' hs H hi
theorem RK.dys {s : cT} {fr : Option ef} (hs : cOK s) (H : RK s) : ∀ n : Nat, s.dy + (n : Int) ≤ 999 → RK (dysS fr s n) := by
  intro n
  induction n with
  | zero => intro _; exact H
  | succ n ih =>
    intro hn
    exact RK.day (dys_ok hs n (by omega)) (ih (by omega))
def tbS (s : cT) : cT := (s.nf, sgt s.fs s.rs (Int.toNat s.ct - 1) 8, s.rn, sgt s.fs s.rs (Int.toNat s.ct - 1) 9, sgt s.fs s.rs (Int.toNat s.ct - 1) 10, s.tc, s.ru, s.sc, (fun j => if j < 8 then sgt s.fs s.rs (Int.toNat s.ct - 1) j else s.mk j), s.sl, s.tx, s.fs, s.ct - 1, s.rs)
theorem cOK.tb {s : cT} (hs : cOK s) (H : RK s) (hc : 0 < s.ct) : cOK (tbS s) ∧ RK (tbS s) := by
  obtain ⟨h1, h2, h3, h4, h5, h6, h7, h8⟩ := hs
  obtain ⟨a, b, c, e⟩ := H (Int.toNat s.ct - 1) (by omega)
  refine ⟨⟨h1, a.eq (fun j hj => ?_), h3, b, h5, c, e, ?_⟩, fun i hi => H i ?_⟩
  · show (if j < 8 then sgt s.fs s.rs (Int.toNat s.ct - 1) j else s.mk j) = _
    rw [if_pos hj]
  · show FT s.fs (s.ct - 1)
    unfold FT at *
    omega
  · have : (i : Int) < s.ct - 1 := hi
    omega
set_option maxRecDepth 100000 in
theorem c_takeBk {d : Nat} {h : hc_H} {Q : List hc_V → hc_H → Prop} {s : cT} (H : TH h s) (hs : cOK s) (kf : s.ct = 0 → Q [xI (-1)] h) (kt : 0 < s.ct → ∀ h2, TH h2 (tbS s) → Fr fl7 h h2 → Q [xI (s.ct - 1)] h2) : hc_wp (d + 2) mX7_takeBack 0 [xR 23] [] h Q := by
  obtain ⟨nf, dy, rn, x, wt, tc, ru, sc, mk, sl, tx, fs, ct, rs⟩ := s
  obtain ⟨H23, H27, H28, H29, H30, H31, HW⟩ := H
  obtain ⟨h1, h2, h3, h4, h5, h6, h7, h8⟩ := hs
  dsimp only [cT.nf, cT.dy, cT.rn, cT.x, cT.wt, cT.tc, cT.ru, cT.sc, cT.mk, cT.sl, cT.tx, cT.fs, cT.ct, cT.rs] at *
  refine wp_go rfl rfl ?_
  refine e_get rfl H23 rfl rfl ?_
  refine wp_go rfl rfl ?_
  refine wp_cv rfl rfl rfl H30 rfl rfl rfl ?_
  refine c_takeBack H23 H27 H30 H31 h8 (fun hz => ?_) (fun r hr hz => ?_)
  · skip
    refine wp_go rfl rfl ?_
    refine wp_go rfl rfl ?_
    refine wp_ret rfl rfl ?_
    exact kf hz
  · skip
    refine wp_go rfl rfl ?_
    refine wp_go rfl rfl ?_
    refine e_get rfl rfl rfl rfl ?_
    refine e_get rfl rfl rfl rfl ?_
    refine wp_go rfl rfl ?_
    refine wp_ret rfl rfl ?_
    have e1 : ∀ j : Nat, sgt fs rs (Int.toNat ct - 1) j = rs (Int.toNat r + j) := by
      intro j
      unfold sgt
      rw [hr, show ((Int.toNat ct - 1 : Nat) : Int) = ct - 1 by omega]
    refine kt hz _ ⟨?_, ?_, H28, H29, rfl, H31, HW⟩ (((Fr.rf.wr rfl).wr rfl).wr rfl)
    · show tw (nf : Int) (rs (Int.toNat (r + 8))) rn (rs (Int.toNat (r + 8 + 1))) (rs (Int.toNat (r + 8 + 2))) tc ru sc = tw (nf : Int) (sgt fs rs (Int.toNat ct - 1) 8) rn (sgt fs rs (Int.toNat ct - 1) 9) (sgt fs rs (Int.toNat ct - 1) 10) tc ru sc
      rw [e1, e1, e1, show Int.toNat (r + 8) = Int.toNat r + 8 by omega, show Int.toNat (r + 8 + 1) = Int.toNat r + 9 by omega, show Int.toNat (r + 8 + 2) = Int.toNat r + 10 by omega]
    · show ar 8 (hc_cpy rs mk (Int.toNat r) (Int.toNat 0) (Int.toNat 8)) = ar 8 (fun j => if j < 8 then sgt fs rs (Int.toNat ct - 1) j else mk j)
      have e2 : hc_cpy rs mk (Int.toNat r) (Int.toNat 0) (Int.toNat 8) = (fun j => if j < 8 then sgt fs rs (Int.toNat ct - 1) j else mk j) := by
        funext j
        unfold hc_cpy
        by_cases c : j < 8
        · rw [if_pos ⟨Nat.zero_le _, by show j < 0 + 8; omega⟩, if_pos c, e1]
          rfl
        · rw [if_neg (fun z => c (by have : j < 0 + 8 := z.2; omega)), if_neg c]
      rw [e2]
def nmb (nc : Nat) (rows : Nat → Int) (i f : Int) : Int := if 0 ≤ i * 5 + f ∧ i * 5 + f < 5 * (nc : Int) then rows (Int.toNat (i * 5 + f)) else -1
set_option maxRecDepth 100000 in
theorem c_number {d : Nat} {h : hc_H} {Q : List hc_V → hc_H → Prop} {t nc ra : Nat} {rt rr : Option Nat} {rows : Nat → Int} {i f : Int} (Ht : h.2.2 t = .inr (5, [xQ rt, xQ rr, xI (nc : Int), xR ra])) (Hra : h.2.2 ra = ar (5 * nc) rows) (hnc : nc ≤ 24) (hi : -100000 ≤ i ∧ i ≤ 100000) (hf : -100000 ≤ f ∧ f ≤ 100000) (k : Q [xI (nmb nc rows i f)] h) : hc_wp d mX5_number 0 [xR t, xI i, xI f, none] [] h Q := by
  refine wp_go rfl rfl ?_
  refine wp_go rfl rfl ?_
  refine e_imul rfl (by omega) ?_
  refine wp_go rfl rfl ?_
  refine e_iadd rfl (by omega) ?_
  refine e_istn (L' := [xR t, xI i, xI f, xI ((i * 5) + f)]) rfl rfl rfl ?_
  refine wp_go rfl rfl ?_
  refine e_iflt rfl (fun c7 => ?_) (fun c7 => ?_)
  · skip
    refine wp_go rfl rfl ?_
    refine wp_ret rfl rfl ?_
    rw [nmb, if_neg (by omega)] at k
    exact k
  · skip
    refine wp_go rfl rfl ?_
    refine wp_go rfl rfl ?_
    refine e_get rfl Ht rfl rfl ?_
    refine e_alen rfl Hra rfl (by omega) ?_
    refine e_cge rfl (fun c16 => ?_) (fun c16 => ?_)
    · skip
      refine wp_go rfl rfl ?_
      refine wp_ret rfl rfl ?_
      rw [nmb, if_neg (by omega)] at k
      exact k
    · skip
      refine wp_go rfl rfl ?_
      refine e_get rfl Ht rfl rfl ?_
      refine wp_go rfl rfl ?_
      refine e_ald rfl Hra rfl (by omega) ?_
      refine wp_go rfl rfl ?_
      refine wp_ret rfl rfl ?_
      rw [nmb, if_pos (by omega)] at k
      exact k
theorem dys_le {fr : Option ef} {s : cT} (H : cOK s) : ∀ n : Nat, s.dy + (n : Int) ≤ 999 → smk (dysS fr s n).mk s.nf ≤ smk s.mk s.nf := by
  intro n
  induction n with
  | zero => intro _; exact Int.le_refl _
  | succ n ih =>
    intro hn
    have a := ih (by omega)
    have b := dys_ok (fr := fr) H n (by omega)
    refine Int.le_trans (smk_le s.nf (fun j hj => ?_)) a
    have h1 := H.1
    have c := b.2.1.1 j (by omega)
    show ddm fr (dysS fr s n).mk (dysS fr s n).sl ((dysS fr s n).dy + 1) (wv (dysS fr s n)) (dysS fr s n).nf j ≤ _
    have e := rbv_bd (fr := fr) (who := (j : Int)) (has := (dysS fr s n).mk j) (day := (dysS fr s n).dy + 1) (sl := (dysS fr s n).sl j) (wet := wv (dysS fr s n)) c.1
    unfold ddm
    split <;> omega
set_option maxRecDepth 100000 in
theorem c_carry12 {d : Nat} {h : hc_H} {Q : List hc_V → hc_H → Prop} {s : cT} {q : Option Nat} {ft fr : Option ef} {nc : Nat} {rows : Nat → Int} {t nc2 ra : Nat} {rt rr : Option Nat} {rows2 : Nat → Int} {i : Int} (H : TH h s) (hs : cOK s) (hq : rul s.tx s.tc s.ru = q) (HT : TXQ h q ft fr nc rows) (Ht : h.2.2 t = .inr (5, [xQ rt, xQ rr, xI (nc2 : Int), xR ra])) (Hra : h.2.2 ra = ar (5 * nc2) rows2) (hnc : nc2 ≤ 24) (hi : 0 ≤ i ∧ i ≤ 100) (hk : nmb nc2 rows2 i 0 = 12) (kf : ¬ ((0 ≤ (nmb nc2 rows2 i 3) ∧ (nmb nc2 rows2 i 3) < (s.nf : Int)) ∧ (0 ≤ (nmb nc2 rows2 i 4) ∧ (nmb nc2 rows2 i 4) < (s.nf : Int)) ∧ (nmb nc2 rows2 i 3) ≠ (nmb nc2 rows2 i 4) ∧ 1 ≤ (nmb nc2 rows2 i 1) ∧ (nmb nc2 rows2 i 1) ≤ (nmb nc2 rows2 i 2) ∧ (nmb nc2 rows2 i 2) ≤ 99) → Q [xI 0] h) (kt : (0 ≤ (nmb nc2 rows2 i 3) ∧ (nmb nc2 rows2 i 3) < (s.nf : Int)) → (0 ≤ (nmb nc2 rows2 i 4) ∧ (nmb nc2 rows2 i 4) < (s.nf : Int)) → (nmb nc2 rows2 i 3) ≠ (nmb nc2 rows2 i 4) → (1 ≤ (nmb nc2 rows2 i 1) ∧ (nmb nc2 rows2 i 1) ≤ (nmb nc2 rows2 i 2) ∧ (nmb nc2 rows2 i 2) ≤ 99) → ∀ pd tl : Int, pd = s.mk (Int.toNat (nmb nc2 rows2 i 3)) * (nmb nc2 rows2 i 1) / (nmb nc2 rows2 i 2) → tl = (if s.mk (Int.toNat (nmb nc2 rows2 i 3)) * (nmb nc2 rows2 i 1) % (nmb nc2 rows2 i 2) = 0 then 0 else tlv ft (nmb nc2 rows2 i 3) (s.mk (Int.toNat (nmb nc2 rows2 i 3))) s.dy pd (s.mk (Int.toNat (nmb nc2 rows2 i 3)) * (nmb nc2 rows2 i 1) % (nmb nc2 rows2 i 2))) → (0 ≤ pd ∧ 0 ≤ tl ∧ pd + tl ≤ s.mk (Int.toNat (nmb nc2 rows2 i 3))) → MK s.nf (hc_u (hc_u s.mk (Int.toNat (nmb nc2 rows2 i 3)) (s.mk (Int.toNat (nmb nc2 rows2 i 3)) - (pd + tl))) (Int.toNat (nmb nc2 rows2 i 4)) (hc_u s.mk (Int.toNat (nmb nc2 rows2 i 3)) (s.mk (Int.toNat (nmb nc2 rows2 i 3)) - (pd + tl)) (Int.toNat (nmb nc2 rows2 i 4)) + pd)) → ∀ h2, TH h2 (kepS s (hc_u (hc_u s.mk (Int.toNat (nmb nc2 rows2 i 3)) (s.mk (Int.toNat (nmb nc2 rows2 i 3)) - (pd + tl))) (Int.toNat (nmb nc2 rows2 i 4)) (hc_u s.mk (Int.toNat (nmb nc2 rows2 i 3)) (s.mk (Int.toNat (nmb nc2 rows2 i 3)) - (pd + tl)) (Int.toNat (nmb nc2 rows2 i 4)) + pd))) → Fr fl7 h h2 → Q [xI 1] h2) : hc_wp (d + 5) mX7_carryOut 0 [xR 23, xR t, xI i] [] h Q := by
  refine wp_go rfl rfl ?_
  refine wp_go rfl rfl ?_
  refine wp_go rfl rfl ?_
  refine wp_cv rfl rfl rfl Ht rfl rfl rfl ?_
  refine c_number Ht Hra hnc (by omega) (by omega) ?_
  rw [hk]
  refine wp_go rfl rfl ?_
  refine wp_go rfl rfl ?_
  refine wp_go rfl rfl ?_
  refine wp_go rfl rfl ?_
  refine wp_go rfl rfl ?_
  refine wp_cv rfl rfl rfl Ht rfl rfl rfl ?_
  refine c_number Ht Hra hnc (by omega) (by omega) ?_
  refine wp_go rfl rfl ?_
  refine wp_go rfl rfl ?_
  refine wp_go rfl rfl ?_
  refine wp_cv rfl rfl rfl Ht rfl rfl rfl ?_
  refine c_number Ht Hra hnc (by omega) (by omega) ?_
  refine wp_go rfl rfl ?_
  refine wp_go rfl rfl ?_
  refine wp_go rfl rfl ?_
  refine wp_cv rfl rfl rfl Ht rfl rfl rfl ?_
  refine c_number Ht Hra hnc (by omega) (by omega) ?_
  refine wp_go rfl rfl ?_
  refine wp_go rfl rfl ?_
  refine wp_go rfl rfl ?_
  refine wp_cv rfl rfl rfl Ht rfl rfl rfl ?_
  refine c_number Ht Hra hnc (by omega) (by omega) ?_
  refine wp_cv rfl rfl rfl H.1 rfl rfl rfl ?_
  refine c_handOver H hs hq HT (fun q57 => ?_) (fun A1 A2 A3 A4 pd tl B1 B2 B3 B4 h2 G2 F2 => ?_)
  · skip
    refine wp_go rfl rfl ?_
    refine wp_go rfl rfl ?_
    refine wp_go rfl rfl ?_
    refine wp_ret rfl rfl ?_
    exact kf q57
  · skip
    refine wp_go rfl rfl ?_
    refine e_ceq rfl (fun c61 => absurd c61 (by omega)) (fun c61 => ?_)
    refine wp_go rfl rfl ?_
    refine wp_go rfl rfl ?_
    refine wp_ret rfl rfl ?_
    exact kt A1 A2 A3 A4 pd tl B1 B2 B3 B4 h2 G2 F2
set_option maxRecDepth 100000 in
theorem c_carry13 {d : Nat} {h : hc_H} {Q : List hc_V → hc_H → Prop} {s : cT} {q : Option Nat} {ft fr : Option ef} {nc : Nat} {rows : Nat → Int} {t nc2 ra : Nat} {rt rr : Option Nat} {rows2 : Nat → Int} {i : Int} (H : TH h s) (hs : cOK s) (hq : rul s.tx s.tc s.ru = q) (HT : TXQ h q ft fr nc rows) (Ht : h.2.2 t = .inr (5, [xQ rt, xQ rr, xI (nc2 : Int), xR ra])) (Hra : h.2.2 ra = ar (5 * nc2) rows2) (hnc : nc2 ≤ 24) (hi : 0 ≤ i ∧ i ≤ 100) (hk : nmb nc2 rows2 i 0 = 13) (kf : ¬ ((0 ≤ (nmb nc2 rows2 i 2) ∧ (nmb nc2 rows2 i 2) < (s.nf : Int)) ∧ 1 ≤ (nmb nc2 rows2 i 1) ∧ (nmb nc2 rows2 i 1) ≤ 720720 - smk s.mk s.nf) → Q [xI 0] h) (kt : (0 ≤ (nmb nc2 rows2 i 2) ∧ (nmb nc2 rows2 i 2) < (s.nf : Int)) → 1 ≤ (nmb nc2 rows2 i 1) → (nmb nc2 rows2 i 1) ≤ 720720 - smk s.mk s.nf → MK s.nf (hc_u s.mk (Int.toNat (nmb nc2 rows2 i 2)) (s.mk (Int.toNat (nmb nc2 rows2 i 2)) + (nmb nc2 rows2 i 1))) → ∀ h2, TH h2 (kepS s (hc_u s.mk (Int.toNat (nmb nc2 rows2 i 2)) (s.mk (Int.toNat (nmb nc2 rows2 i 2)) + (nmb nc2 rows2 i 1)))) → Fr fl7 h h2 → Q [xI 1] h2) : hc_wp (d + 5) mX7_carryOut 0 [xR 23, xR t, xI i] [] h Q := by
  refine wp_go rfl rfl ?_
  refine wp_go rfl rfl ?_
  refine wp_go rfl rfl ?_
  refine wp_cv rfl rfl rfl Ht rfl rfl rfl ?_
  refine c_number Ht Hra hnc (by omega) (by omega) ?_
  rw [hk]
  refine wp_go rfl rfl ?_
  refine wp_go rfl rfl ?_
  refine wp_go rfl rfl ?_
  refine wp_go rfl rfl ?_
  refine wp_go rfl rfl ?_
  refine wp_cv rfl rfl rfl Ht rfl rfl rfl ?_
  refine c_number Ht Hra hnc (by omega) (by omega) ?_
  refine wp_go rfl rfl ?_
  refine wp_go rfl rfl ?_
  refine wp_go rfl rfl ?_
  refine wp_cv rfl rfl rfl Ht rfl rfl rfl ?_
  refine c_number Ht Hra hnc (by omega) (by omega) ?_
  refine wp_cv rfl rfl rfl H.1 rfl rfl rfl ?_
  refine c_give H hs (fun q83 => ?_) (fun A1 A2 A3 A4 h2 G2 F2 => ?_)
  · skip
    refine wp_go rfl rfl ?_
    refine wp_go rfl rfl ?_
    refine wp_go rfl rfl ?_
    refine wp_ret rfl rfl ?_
    exact kf q83
  · skip
    have hgb : 0 ≤ 720720 - smk (hc_u s.mk (Int.toNat (nmb nc2 rows2 i 2)) (s.mk (Int.toNat (nmb nc2 rows2 i 2)) + nmb nc2 rows2 i 1)) s.nf := by
      have := A4.nf8 hs.1
      have := A4.2.2
      omega
    obtain ⟨gb, hge⟩ : ∃ z : Int, z = 720720 - smk (hc_u s.mk (Int.toNat (nmb nc2 rows2 i 2)) (s.mk (Int.toNat (nmb nc2 rows2 i 2)) + nmb nc2 rows2 i 1)) s.nf := ⟨_, rfl⟩
    rw [← hge] at hgb ⊢
    refine wp_go rfl rfl ?_
    refine e_ceq rfl (fun c87 => absurd c87 (by omega)) (fun c87 => ?_)
    refine wp_go rfl rfl ?_
    refine wp_go rfl rfl ?_
    refine wp_ret rfl rfl ?_
    exact kt A1 A2 A3 A4 h2 G2 F2
set_option maxRecDepth 100000 in
theorem c_carry14 {d : Nat} {h : hc_H} {Q : List hc_V → hc_H → Prop} {s : cT} {q : Option Nat} {ft fr : Option ef} {nc : Nat} {rows : Nat → Int} {t nc2 ra : Nat} {rt rr : Option Nat} {rows2 : Nat → Int} {i : Int} (H : TH h s) (hs : cOK s) (hq : rul s.tx s.tc s.ru = q) (HT : TXQ h q ft fr nc rows) (Ht : h.2.2 t = .inr (5, [xQ rt, xQ rr, xI (nc2 : Int), xR ra])) (Hra : h.2.2 ra = ar (5 * nc2) rows2) (hnc : nc2 ≤ 24) (hi : 0 ≤ i ∧ i ≤ 100) (hk : nmb nc2 rows2 i 0 = 14) (kf : ((nmb nc2 rows2 i 1) < 1 ∨ 99 < (nmb nc2 rows2 i 1) ∨ 999 < s.dy + (nmb nc2 rows2 i 1)) → Q [xI 0] h) (kt : 1 ≤ (nmb nc2 rows2 i 1) → (nmb nc2 rows2 i 1) ≤ 99 → s.dy + (nmb nc2 rows2 i 1) ≤ 999 → ∀ h2, TH h2 (dysS fr s (Int.toNat (nmb nc2 rows2 i 1))) → Fr fl7 h h2 → Q [xI 1] h2) : hc_wp (d + 6) mX7_carryOut 0 [xR 23, xR t, xI i] [] h Q := by
  refine wp_go rfl rfl ?_
  refine wp_go rfl rfl ?_
  refine wp_go rfl rfl ?_
  refine wp_cv rfl rfl rfl Ht rfl rfl rfl ?_
  refine c_number Ht Hra hnc (by omega) (by omega) ?_
  rw [hk]
  refine wp_go rfl rfl ?_
  refine wp_go rfl rfl ?_
  refine wp_go rfl rfl ?_
  refine wp_go rfl rfl ?_
  refine wp_go rfl rfl ?_
  refine wp_cv rfl rfl rfl Ht rfl rfl rfl ?_
  refine c_number Ht Hra hnc (by omega) (by omega) ?_
  refine wp_cv rfl rfl rfl H.1 rfl rfl rfl ?_
  refine c_letGoBy H hs hq HT (fun q103 => ?_) (fun A1 A2 A3 h2 G2 F2 => ?_)
  · skip
    refine wp_go rfl rfl ?_
    refine wp_go rfl rfl ?_
    refine wp_go rfl rfl ?_
    refine wp_ret rfl rfl ?_
    exact kf q103
  · skip
    have hgb : 0 ≤ smk s.mk s.nf - smk (dysS fr s (Int.toNat (nmb nc2 rows2 i 1))).mk s.nf := by
      have := dys_le (fr := fr) hs (Int.toNat (nmb nc2 rows2 i 1)) (by omega)
      omega
    obtain ⟨gb, hge⟩ : ∃ z : Int, z = smk s.mk s.nf - smk (dysS fr s (Int.toNat (nmb nc2 rows2 i 1))).mk s.nf := ⟨_, rfl⟩
    rw [← hge] at hgb ⊢
    refine wp_go rfl rfl ?_
    refine e_ceq rfl (fun c107 => absurd c107 (by omega)) (fun c107 => ?_)
    refine wp_go rfl rfl ?_
    refine wp_go rfl rfl ?_
    refine wp_ret rfl rfl ?_
    exact kt A1 A2 A3 h2 G2 F2
set_option maxRecDepth 100000 in
theorem c_addText {d : Nat} {h : hc_H} {Q : List hc_V → hc_H → Prop} {s : cT} {t : Nat} (H : TH h s) (hT : hc_isT h (some t) = true) (hc : -100 ≤ s.tc ∧ s.tc ≤ 100) (kf : ¬ (0 ≤ s.tc ∧ s.tc < 4) → Q [xI (-1)] h) (kt : (0 ≤ s.tc ∧ s.tc < 4) → ∀ h2, TH h2 (s.nf, s.dy, s.rn, s.x, s.wt, s.tc + 1, s.ru, s.sc, s.mk, s.sl, hc_u s.tx (Int.toNat s.tc) (some t), s.fs, s.ct, s.rs) → Fr [23, 29] h h2 → Q [xI s.tc] h2) : hc_wp d mX7_addText 0 [xR 23, xR t] [] h Q := by
  obtain ⟨nf, dy, rn, x, wt, tc, ru, sc, mk, sl, tx, fs, ct, rs⟩ := s
  obtain ⟨H23, H27, H28, H29, H30, H31, HW⟩ := H
  dsimp only [cT.nf, cT.dy, cT.rn, cT.x, cT.wt, cT.tc, cT.ru, cT.sc, cT.mk, cT.sl, cT.tx, cT.fs, cT.ct, cT.rs] at *
  refine wp_go rfl rfl ?_
  refine e_get rfl H23 rfl rfl ?_
  refine e_iflt rfl (fun c4 => ?_) (fun c4 => ?_)
  · skip
    refine wp_go rfl rfl ?_
    refine wp_ret rfl rfl ?_
    exact kf (by omega)
  · skip
    refine wp_go rfl rfl ?_
    refine e_get rfl H23 rfl rfl ?_
    refine wp_go rfl rfl ?_
    refine e_clt rfl (fun c12 => ?_) (fun c12 => ?_)
    · skip
      refine wp_go rfl rfl ?_
      refine e_get rfl H23 rfl rfl ?_
      refine wp_go rfl rfl ?_
      refine e_get rfl H23 rfl rfl ?_
      refine wp_go rfl rfl ?_
      refine e_aast (q := (some t)) rfl H29 hT (by omega) ?_
      refine wp_go rfl rfl ?_
      refine wp_go rfl rfl ?_
      refine e_get rfl H23 rfl rfl ?_
      refine wp_go rfl rfl ?_
      refine e_iadd rfl (by omega) ?_
      refine e_put (fs' := [xR 24, xI (nf : Int), xR 27, xR 28, xI dy, xI rn, xI x, xI wt, xR 29, xI (tc + 1), xI ru, xR 30, xR 32, xR 36, xI sc]) rfl H23 rfl rfl ?_
      refine wp_go rfl rfl ?_
      refine e_get rfl rfl rfl rfl ?_
      refine wp_go rfl rfl ?_
      refine e_isub rfl (by omega) ?_
      refine wp_ret rfl rfl ?_
      rw [show tc + 1 - 1 = tc by omega]
      exact kt (by omega) _ ⟨rfl, H27, H28, rfl, H30, H31, HW⟩ ((Fr.rf.wr rfl).wr rfl)
    · skip
      refine wp_go rfl rfl ?_
      refine wp_ret rfl rfl ?_
      exact kf (by omega)
