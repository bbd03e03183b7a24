/-! the class: Town, second part: steps, tolls, rubs -/
abbrev stp (fs ct : Int) : hc_E := .inr (4, [xR 31, xI fs, xI ct])
def kfs (fs ct : Int) : Int := if ct < 30 then fs else (fs + 1) % 30
def kct (ct : Int) : Int := if ct < 30 then ct + 1 else ct
def krw (fs ct : Int) (mk rw : Nat → Int) (dy x wt : Int) : Nat → Int := kp_rows mk rw (((fs + ct) % 30) * 11) dy x wt
theorem c_keep2 {d : Nat} {h : hc_H} {Q : List hc_V → hc_H → Prop} {fk dy rn x wt tc ru sc fs ct : Int} {mk rw : Nat → Int} (H23 : h.2.2 23 = tw fk dy rn x wt tc ru sc) (H27 : h.2.2 27 = ar 8 mk) (H30 : h.2.2 30 = stp fs ct) (H31 : h.2.2 31 = ar 330 rw) (hf : 0 ≤ fs ∧ fs < 30 ∧ 0 ≤ ct ∧ ct ≤ 30) (k : Q [] (hc_wr (hc_wr h 30 (stp (kfs fs ct) (kct ct))) 31 (ar 330 (krw fs ct mk rw dy x wt)))) : hc_wp (d + 1) mX4_keep 0 [xR 30, xR 23, none] [] h Q := by
  refine c_keep H23 H27 H30 H31 hf (fun r hr hc => ?_) (fun r hr hc => ?_)
  · rw [hr]
    simp only [kfs, kct, if_pos hc] at k
    exact k
  · rw [hr, Int.tmod_eq_emod_of_nonneg (by omega)]
    simp only [kfs, kct, if_neg (show ¬ ct < 30 by omega)] at k
    exact k
def cut0 (v top : Int) : Int := if 0 < (if top < v then top else v) then (if top < v then top else v) else 0
theorem cut0_bd {v top : Int} (h : 0 ≤ top) : 0 ≤ cut0 v top ∧ cut0 v top ≤ top := by
  unfold cut0
  split <;> split <;> omega
abbrev ef : Type := Int → Int → Int → Int → Int → Int
/-- a row of words at q works out G, of the names at places i1 .. i5 -/
def EOK (h : hc_H) (q : Option Nat) (f : Option ef) (i4 i5 : Nat) : Prop := match q, f with
  | none, none => True
  | some q, some G => 91 ≤ q ∧ ∃ (n : Nat) (wd : Nat → Int), h.2.2 q = ar n wd ∧ n ≤ 300 ∧ ∀ nm : Nat → Int, bnd nm → ∃ m, m ≤ 64 ∧ WE n wd nm 0 n (G (nm 23) (nm 24) (nm 25) (nm i4) (nm i5)) m
  | _, _ => False
def TOK (h : hc_H) (t : Nat) (ft fr : Option ef) (nc : Nat) (rows : Nat → Int) : Prop := ∃ (rt rr : Option Nat) (ra : Nat), h.2.2 t = .inr (5, [xQ rt, xQ rr, xI (nc : Int), xR ra]) ∧ 91 ≤ t ∧ 91 ≤ ra ∧ h.2.2 ra = ar (5 * nc) rows ∧ nc ≤ 24 ∧ EOK h rt ft 26 27 ∧ EOK h rr fr 28 29
theorem EOK.kept {h h' : hc_H} {q : Option Nat} {f : Option ef} {i4 i5 : Nat} (H : EOK h q f i4 i5) (hk : ∀ a, 91 ≤ a → h'.2.2 a = h.2.2 a) : EOK h' q f i4 i5 := by
  match q, f, H with
  | none, none, _ => trivial
  | some q, some G, ⟨h1, n, wd, h2, h3⟩ => exact ⟨h1, n, wd, (hk q h1).trans h2, h3⟩
theorem TOK.kept {h h' : hc_H} {t : Nat} {ft fr : Option ef} {nc : Nat} {rows : Nat → Int} (H : TOK h t ft fr nc rows) (hk : ∀ a, 91 ≤ a → h'.2.2 a = h.2.2 a) : TOK h' t ft fr nc rows := by
  obtain ⟨rt, rr, ra, h1, h2, h3, h4, h5, h6, h7⟩ := H
  exact ⟨rt, rr, ra, (hk t h2).trans h1, h2, h3, (hk ra h3).trans h4, h5, h6.kept hk, h7.kept hk⟩
def rbv (fr : Option ef) (who has day sl wet : Int) : Int := match fr with
  | none => 0
  | some G => if has < 1 then 0 else cut0 (G who has day sl wet) has
theorem rbv_bd {fr : Option ef} {who has day sl wet : Int} (h : 0 ≤ has) : 0 ≤ rbv fr who has day sl wet ∧ rbv fr who has day sl wet ≤ has := by
  unfold rbv
  split
  · omega
  · split
    · omega
    · exact cut0_bd h
def tlv (ft : Option ef) (who has day paid rest : Int) : Int := match ft with
  | none => if has - paid < 1 then has - paid else 1
  | some G => cut0 (G who has day paid rest) (has - paid)
set_option maxRecDepth 100000 in
theorem c_rubsN {d : Nat} {h : hc_H} {Q : List hc_V → hc_H → Prop} {who has day wet : Int} (k : Q [xI 0] h) : hc_wp (d + 3) mX7_rubs 0 [xR 23, xN, xI who, xI has, xI day, xI wet] [] h Q := by
  refine wp_go rfl rfl ?_
  refine wp_go rfl rfl ?_
  refine wp_go rfl rfl ?_
  refine wp_ret rfl rfl ?_
  exact k
set_option maxRecDepth 100000 in
theorem c_rubs0 {d : Nat} {h : hc_H} {Q : List hc_V → hc_H → Prop} {t nc ra : Nat} {rt : Option Nat} {who has day wet : Int} (Ht : h.2.2 t = .inr (5, [xQ rt, xN, xI (nc : Int), xR ra])) (k : Q [xI 0] h) : hc_wp (d + 3) mX7_rubs 0 [xR 23, xR t, xI who, xI has, xI day, xI wet] [] h Q := by
  refine wp_go rfl rfl ?_
  refine wp_go rfl rfl ?_
  refine wp_go rfl rfl ?_
  refine e_get rfl Ht rfl rfl ?_
  refine wp_go rfl rfl ?_
  refine wp_go rfl rfl ?_
  refine wp_ret rfl rfl ?_
  exact k
set_option maxRecDepth 100000 in
theorem c_rubs1 {d : Nat} {h : hc_H} {Q : List hc_V → hc_H → Prop} {nf : Nat} {dy rn x wt tc ru sc ht : Int} {sl nm vs : Nat → Int} {t q n nc ra : Nat} {rt : Option Nat} {who has day wet : Int} {G : ef} {wd : Nat → Int} (H23 : h.2.2 23 = tw (nf : Int) dy rn x wt tc ru sc) (H28 : h.2.2 28 = ar 8 sl) (H24 : h.2.2 24 = wk ht) (H25 : h.2.2 25 = ar 64 nm) (H26 : h.2.2 26 = ar 64 vs) (hnm : bnd nm) (hw : 0 ≤ who ∧ who < (nf : Int) ∧ who < 8) (Ht : h.2.2 t = .inr (5, [xQ rt, xR q, xI (nc : Int), xR ra])) (ht91 : 91 ≤ t) (h91 : 91 ≤ q) (Hq : h.2.2 q = ar n wd) (hn : n ≤ 300) (HG : ∀ nm : Nat → Int, bnd nm → ∃ m, m ≤ 64 ∧ WE n wd nm 0 n (G (nm 23) (nm 24) (nm 25) (nm 28) (nm 29)) m) (hsl : ∀ j, j < 8 → 0 ≤ sl j ∧ sl j ≤ 9) (hha : 1 ≤ has ∧ has ≤ 720720) (hda : 0 ≤ day ∧ day ≤ 2000) (hwe : wet = 0 ∨ wet = 1) (k : ∀ nm vs : Nat → Int, bnd nm → Q [xI (cut0 (G who has day (sl (Int.toNat who)) wet) has)] (hc_wr (hc_wr (hc_wr h 25 (ar 64 nm)) 26 (ar 64 vs)) 24 (wk 0))) : hc_wp (d + 3) mX7_rubs 0 [xR 23, xR t, xI who, xI has, xI day, xI wet] [] h Q := by
  refine wp_go rfl rfl ?_
  refine wp_go rfl rfl ?_
  refine wp_go rfl rfl ?_
  refine e_get rfl Ht rfl rfl ?_
  refine wp_go rfl rfl ?_
  refine wp_go rfl rfl ?_
  refine wp_go rfl rfl ?_
  refine e_clt rfl (fun c13 => absurd c13 (by omega)) (fun c13 => ?_)
  refine wp_go rfl rfl ?_
  refine wp_go rfl rfl ?_
  refine wp_cv rfl rfl rfl H23 rfl rfl rfl ?_
  refine c_isFolk H23 (fun q18 => ?_) (fun q18 => ?_)
  · skip
    refine wp_go rfl rfl ?_
    refine wp_go rfl rfl ?_
    refine e_get rfl H23 rfl rfl ?_
    refine wp_go rfl rfl ?_
    refine wp_go rfl rfl ?_
    refine wp_cv rfl rfl rfl H24 rfl rfl rfl ?_
    refine c_name H24 H25 (by decide) ?_
    refine wp_go rfl rfl ?_
    refine e_get rfl H23 rfl rfl ?_
    refine wp_go rfl rfl ?_
    refine wp_go rfl rfl ?_
    refine wp_cv rfl rfl rfl H24 rfl rfl rfl ?_
    refine c_name H24 rfl (by decide) ?_
    refine wp_go rfl rfl ?_
    refine e_get rfl H23 rfl rfl ?_
    refine wp_go rfl rfl ?_
    refine wp_go rfl rfl ?_
    refine wp_cv rfl rfl rfl H24 rfl rfl rfl ?_
    refine c_name H24 rfl (by decide) ?_
    refine wp_go rfl rfl ?_
    refine e_get rfl H23 rfl rfl ?_
    refine wp_go rfl rfl ?_
    refine wp_go rfl rfl ?_
    refine e_get rfl H23 rfl rfl ?_
    refine wp_go rfl rfl ?_
    refine e_ald rfl H28 rfl (by omega) ?_
    refine wp_cv rfl rfl rfl H24 rfl rfl rfl ?_
    refine c_name H24 rfl (by decide) ?_
    refine wp_go rfl rfl ?_
    refine e_get rfl H23 rfl rfl ?_
    refine wp_go rfl rfl ?_
    refine wp_go rfl rfl ?_
    refine wp_cv rfl rfl rfl H24 rfl rfl rfl ?_
    refine c_name H24 rfl (by decide) ?_
    refine wp_go rfl rfl ?_
    refine wp_go rfl rfl ?_
    refine e_get rfl H23 rfl rfl ?_
    refine wp_go rfl rfl ?_
    refine e_get rfl (hw_ne (by omega) (hw_ne (by omega) (hw_ne (by omega) (hw_ne (by omega) (hw_ne (by omega) Ht))))) rfl rfl ?_
    have hb5 : bnd (hc_u (hc_u (hc_u (hc_u (hc_u nm (Int.toNat 23) who) (Int.toNat 24) has) (Int.toNat 25) day) (Int.toNat 28) (sl (Int.toNat who))) (Int.toNat 29) wet) := bnd_u (bnd_u (bnd_u (bnd_u (bnd_u hnm (by omega)) (by omega)) (by omega)) (by have := hsl (Int.toNat who) (by omega); omega)) (by omega)
    refine wp_cv rfl rfl rfl H24 rfl rfl rfl ?_
    obtain ⟨m, hm, HE⟩ := HG _ hb5
    have HE : WE n wd (hc_u (hc_u (hc_u (hc_u (hc_u nm (Int.toNat 23) who) (Int.toNat 24) has) (Int.toNat 25) day) (Int.toNat 28) (sl (Int.toNat who))) (Int.toNat 29) wet) 0 n (G who has day (sl (Int.toNat who)) wet) m := HE
    refine c_value (hw_ne (by omega) (hw_ne (by omega) (hw_ne (by omega) (hw_ne (by omega) (hw_ne (by omega) Hq))))) H24 rfl H26 h91 hn HE hm (fun vs' => ?_)
    generalize G who has day (sl (Int.toNat who)) wet = gv at k ⊢
    refine wp_go rfl rfl ?_
    refine wp_go rfl rfl ?_
    refine wp_go rfl rfl ?_
    refine wp_ret rfl rfl ?_
    simp only [hw_2]
    exact k _ vs' hb5
  · skip
    refine wp_go rfl rfl ?_
    refine wp_go rfl rfl ?_
    refine wp_ret rfl rfl ?_
    exact absurd hw q18
