/-! the class: Town, third part -/
def TXQ (h : hc_H) (q : Option Nat) (ft fr : Option ef) (nc : Nat) (rows : Nat → Int) : Prop := match q with
  | none => ft = none ∧ fr = none
  | some t => TOK h t ft fr nc rows
theorem TXQ.kept {h h' : hc_H} {q : Option Nat} {ft fr : Option ef} {nc : Nat} {rows : Nat → Int} (H : TXQ h q ft fr nc rows) (hk : ∀ a, 91 ≤ a → h'.2.2 a = h.2.2 a) : TXQ h' q ft fr nc rows := by
  match q, H with
  | none, H => exact H
  | some t, H => exact TOK.kept H hk
theorem Fr.big {l : List Nat} {h h' : hc_H} (H : Fr l h h') (hl : l.all (fun x => Nat.blt x 91) = true) : ∀ a, 91 ≤ a → h'.2.2 a = h.2.2 a := fun a ha => H.2.2 a (nin_big hl ha)
def rul (tx : Nat → Option Nat) (tc ru : Int) : Option Nat := if 0 ≤ ru ∧ ru < tc ∧ ru < 4 then tx (Int.toNat ru) else none
theorem c_textAt2 {d : Nat} {h : hc_H} {Q : List hc_V → hc_H → Prop} {fk dy rn x wt tc ru sc t : Int} {tx : Nat → Option Nat} {q : Option Nat} (H23 : h.2.2 23 = tw fk dy rn x wt tc ru sc) (H29 : h.2.2 29 = .inl (3, 4, .inr tx)) (hq : rul tx tc t = q) (k : Q [xQ q] h) : hc_wp (d + 1) mX7_textAt 0 [xR 23, xI t] [] h Q := by
  refine c_textAt H23 H29 (fun c => ?_) (fun c => ?_)
  · rw [rul, if_pos c] at hq
    rw [hq]
    exact k
  · rw [rul, if_neg c] at hq
    subst hq
    exact k
set_option maxRecDepth 100000 in
theorem c_rubsH {d : Nat} {h : hc_H} {Q : List hc_V → hc_H → Prop} {t q nc ra : Nat} {rt : Option Nat} {who has day wet : Int} (Ht : h.2.2 t = .inr (5, [xQ rt, xR q, xI (nc : Int), xR ra])) (hh : has < 1) (k : Q [xI 0] h) : hc_wp (d + 3) mX7_rubs 0 [xR 23, xR t, xI who, xI has, xI day, xI wet] [] h Q := by
  refine wp_go rfl rfl ?_
  refine wp_go rfl rfl ?_
  refine wp_go rfl rfl ?_
  refine e_get rfl Ht rfl rfl ?_
  refine wp_go rfl rfl ?_
  refine wp_go rfl rfl ?_
  refine wp_go rfl rfl ?_
  refine e_clt rfl (fun c13 => ?_) (fun c13 => absurd c13 (by omega))
  refine wp_go rfl rfl ?_
  refine wp_ret rfl rfl ?_
  exact k
theorem ws_wr {h : hc_H} {nm vs : Nat → Int} {ht : Int} (hb : bnd nm) : WS (hc_wr (hc_wr (hc_wr h 25 (ar 64 nm)) 26 (ar 64 vs)) 24 (wk ht)) := ⟨⟨ht, rfl⟩, ⟨nm, hb, rfl⟩, ⟨vs, rfl⟩⟩
theorem fr_wr {h : hc_H} {a b c : hc_E} : Fr [24, 25, 26] h (hc_wr (hc_wr (hc_wr h 25 a) 26 b) 24 c) := ((Fr.rf.wr rfl).wr rfl).wr rfl
theorem c_rubs {d : Nat} {h : hc_H} {Q : List hc_V → hc_H → Prop} {nf : Nat} {dy rn x wt tc ru sc who has day wet : Int} {sl : Nat → Int} {q : Option Nat} {ft fr : Option ef} {nc : Nat} {rows : Nat → Int} (H23 : h.2.2 23 = tw (nf : Int) dy rn x wt tc ru sc) (H28 : h.2.2 28 = ar 8 sl) (HW : WS h) (HT : TXQ h q ft fr nc rows) (hw : 0 ≤ who ∧ who < (nf : Int) ∧ who < 8) (hsl : ∀ j, j < 8 → 0 ≤ sl j ∧ sl j ≤ 9) (hha : 0 ≤ has ∧ has ≤ 720720) (hda : 0 ≤ day ∧ day ≤ 2000) (hwe : wet = 0 ∨ wet = 1) (k : ∀ h', WS h' → Fr [24, 25, 26] h h' → Q [xI (rbv fr who has day (sl (Int.toNat who)) wet)] h') : hc_wp (d + 3) mX7_rubs 0 [xR 23, xQ q, xI who, xI has, xI day, xI wet] [] h Q := by
  match q, HT with
  | none, HT =>
    obtain ⟨rfl, rfl⟩ := HT
    exact c_rubsN (k h HW Fr.rf)
  | some t, HT =>
    obtain ⟨rt, rr, ra, Ht, h91, hra, Hra, hnc, He1, He2⟩ := HT
    match rr, fr, He2 with
    | none, none, _ => exact c_rubs0 Ht (k h HW Fr.rf)
    | some q, some G, ⟨hq91, n, wd, Hq, hn, HG⟩ =>
      by_cases hh : has < 1
      · refine c_rubsH Ht hh ?_
        have := k h HW Fr.rf
        rw [rbv, if_pos hh] at this
        exact this
      · obtain ⟨⟨ht, H24⟩, ⟨nm, hnm, H25⟩, ⟨vs, H26⟩⟩ := HW
        refine c_rubs1 H23 H28 H24 H25 H26 hnm hw Ht h91 hq91 Hq hn HG hsl (by omega) hda hwe (fun nm2 vs2 hb => ?_)
        have := k _ (ws_wr hb) (fr_wr (a := ar 64 nm2) (b := ar 64 vs2) (c := wk 0))
        rw [rbv, if_neg hh] at this
        exact this
set_option maxRecDepth 100000 in
theorem c_tollN {d : Nat} {h : hc_H} {Q : List hc_V → hc_H → Prop} {nf : Nat} {dy rn x wt tc ru sc who paid rest : Int} {mk : Nat → Int} {tx : Nat → Option Nat} (H23 : h.2.2 23 = tw (nf : Int) dy rn x wt tc ru sc) (H27 : h.2.2 27 = ar 8 mk) (H29 : h.2.2 29 = .inl (3, 4, .inr tx)) (hw : 0 ≤ who ∧ who < 8) (hmk : ∀ j, j < 8 → 0 ≤ mk j ∧ mk j ≤ 720720) (hpd : 0 ≤ paid ∧ paid ≤ 720720) (hq : rul tx tc ru = none) (k : Q [xI (if mk (Int.toNat who) - paid < 1 then mk (Int.toNat who) - paid else 1)] h) : hc_wp (d + 3) mX7_toll 0 [xR 23, xI who, xI paid, xI rest, none, none] [] h Q := by
  refine wp_go rfl rfl ?_
  refine e_get rfl H23 rfl rfl ?_
  refine wp_go rfl rfl ?_
  refine e_ald rfl H27 rfl (by omega) ?_
  have hmw := hmk (Int.toNat who) (by omega)
  refine wp_go rfl rfl ?_
  refine e_isub rfl (by omega) ?_
  refine e_ist (L' := [xR 23, xI who, xI paid, xI rest, xI ((mk (Int.toNat who)) - paid), none]) rfl rfl rfl ?_
  refine wp_go rfl rfl ?_
  refine wp_go rfl rfl ?_
  refine e_get rfl H23 rfl rfl ?_
  refine wp_cv rfl rfl rfl H23 rfl rfl rfl ?_
  refine c_textAt2 H23 H29 hq ?_
  refine e_ast (L' := [xR 23, xI who, xI paid, xI rest, xI ((mk (Int.toNat who)) - paid), xN]) rfl rfl rfl ?_
  refine wp_go rfl rfl ?_
  refine wp_go rfl rfl ?_
  refine wp_go rfl rfl ?_
  refine wp_go rfl rfl ?_
  refine wp_go rfl rfl ?_
  refine wp_ret rfl rfl ?_
  exact k
set_option maxRecDepth 100000 in
theorem c_toll0 {d : Nat} {h : hc_H} {Q : List hc_V → hc_H → Prop} {nf : Nat} {dy rn x wt tc ru sc who paid rest : Int} {mk : Nat → Int} {tx : Nat → Option Nat} {t nc ra : Nat} {rr : Option Nat} (H23 : h.2.2 23 = tw (nf : Int) dy rn x wt tc ru sc) (H27 : h.2.2 27 = ar 8 mk) (H29 : h.2.2 29 = .inl (3, 4, .inr tx)) (hw : 0 ≤ who ∧ who < 8) (hmk : ∀ j, j < 8 → 0 ≤ mk j ∧ mk j ≤ 720720) (hpd : 0 ≤ paid ∧ paid ≤ 720720) (hq : rul tx tc ru = some t) (Ht : h.2.2 t = .inr (5, [xN, xQ rr, xI (nc : Int), xR ra])) (k : Q [xI (if mk (Int.toNat who) - paid < 1 then mk (Int.toNat who) - paid else 1)] h) : hc_wp (d + 3) mX7_toll 0 [xR 23, xI who, xI paid, xI rest, none, none] [] h Q := by
  refine wp_go rfl rfl ?_
  refine e_get rfl H23 rfl rfl ?_
  refine wp_go rfl rfl ?_
  refine e_ald rfl H27 rfl (by omega) ?_
  have hmw := hmk (Int.toNat who) (by omega)
  refine wp_go rfl rfl ?_
  refine e_isub rfl (by omega) ?_
  refine e_ist (L' := [xR 23, xI who, xI paid, xI rest, xI ((mk (Int.toNat who)) - paid), none]) rfl rfl rfl ?_
  refine wp_go rfl rfl ?_
  refine wp_go rfl rfl ?_
  refine e_get rfl H23 rfl rfl ?_
  refine wp_cv rfl rfl rfl H23 rfl rfl rfl ?_
  refine c_textAt2 H23 H29 hq ?_
  refine e_ast (L' := [xR 23, xI who, xI paid, xI rest, xI ((mk (Int.toNat who)) - paid), xR t]) rfl rfl rfl ?_
  refine wp_go rfl rfl ?_
  refine wp_go rfl rfl ?_
  refine wp_go rfl rfl ?_
  refine e_get rfl Ht rfl rfl ?_
  refine wp_go rfl rfl ?_
  refine wp_go rfl rfl ?_
  refine wp_go rfl rfl ?_
  refine wp_go rfl rfl ?_
  refine wp_ret rfl rfl ?_
  exact k
set_option maxRecDepth 100000 in
theorem c_toll1 {d : Nat} {h : hc_H} {Q : List hc_V → hc_H → Prop} {nf : Nat} {dy rn x wt tc ru sc who paid rest : Int} {mk : Nat → Int} {tx : Nat → Option Nat} {t q n nc ra : Nat} {rr : Option Nat} {G : ef} {wd nm vs : Nat → Int} {ht : Int} (H23 : h.2.2 23 = tw (nf : Int) dy rn x wt tc ru sc) (H27 : h.2.2 27 = ar 8 mk) (H29 : h.2.2 29 = .inl (3, 4, .inr tx)) (hw : 0 ≤ who ∧ who < 8) (hmk : ∀ j, j < 8 → 0 ≤ mk j ∧ mk j ≤ 720720) (hpd : 0 ≤ paid ∧ paid ≤ 720720) (H24 : h.2.2 24 = wk ht) (H25 : h.2.2 25 = ar 64 nm) (H26 : h.2.2 26 = ar 64 vs) (hnm : bnd nm) (hq : rul tx tc ru = some t) (Ht : h.2.2 t = .inr (5, [xR q, xQ rr, xI (nc : Int), xR ra])) (ht91 : 91 ≤ t) (h91 : 91 ≤ q) (Hq : h.2.2 q = ar n wd) (hn : n ≤ 300) (HG : ∀ nm : Nat → Int, bnd nm → ∃ m, m ≤ 64 ∧ WE n wd nm 0 n (G (nm 23) (nm 24) (nm 25) (nm 26) (nm 27)) m) (hdy : 0 ≤ dy ∧ dy ≤ 2000) (hrs : 0 ≤ rest ∧ rest ≤ 1000) (k : ∀ nm vs : Nat → Int, bnd nm → Q [xI (cut0 (G who (mk (Int.toNat who)) dy paid rest) (mk (Int.toNat who) - paid))] (hc_wr (hc_wr (hc_wr h 25 (ar 64 nm)) 26 (ar 64 vs)) 24 (wk 0))) : hc_wp (d + 3) mX7_toll 0 [xR 23, xI who, xI paid, xI rest, none, none] [] h Q := by
  refine wp_go rfl rfl ?_
  refine e_get rfl H23 rfl rfl ?_
  refine wp_go rfl rfl ?_
  refine e_ald rfl H27 rfl (by omega) ?_
  have hmw := hmk (Int.toNat who) (by omega)
  refine wp_go rfl rfl ?_
  refine e_isub rfl (by omega) ?_
  refine e_ist (L' := [xR 23, xI who, xI paid, xI rest, xI ((mk (Int.toNat who)) - paid), none]) rfl rfl rfl ?_
  refine wp_go rfl rfl ?_
  refine wp_go rfl rfl ?_
  refine e_get rfl H23 rfl rfl ?_
  refine wp_cv rfl rfl rfl H23 rfl rfl rfl ?_
  refine c_textAt2 H23 H29 hq ?_
  refine e_ast (L' := [xR 23, xI who, xI paid, xI rest, xI ((mk (Int.toNat who)) - paid), xR t]) rfl rfl rfl ?_
  refine wp_go rfl rfl ?_
  refine wp_go rfl rfl ?_
  refine wp_go rfl rfl ?_
  refine e_get rfl Ht rfl rfl ?_
  refine wp_go rfl rfl ?_
  refine wp_go rfl rfl ?_
  refine e_get rfl H23 rfl rfl ?_
  refine wp_go rfl rfl ?_
  refine wp_go rfl rfl ?_
  refine wp_cv rfl rfl rfl H24 rfl rfl rfl ?_
  refine c_name H24 H25 (by decide) ?_
  refine wp_go rfl rfl ?_
  refine e_get rfl H23 rfl rfl ?_
  refine wp_go rfl rfl ?_
  refine wp_go rfl rfl ?_
  refine e_get rfl H23 rfl rfl ?_
  refine wp_go rfl rfl ?_
  refine e_ald rfl H27 rfl (by omega) ?_
  refine wp_cv rfl rfl rfl H24 rfl rfl rfl ?_
  refine c_name H24 rfl (by decide) ?_
  refine wp_go rfl rfl ?_
  refine e_get rfl H23 rfl rfl ?_
  refine wp_go rfl rfl ?_
  refine wp_go rfl rfl ?_
  refine e_get rfl H23 rfl rfl ?_
  refine wp_cv rfl rfl rfl H24 rfl rfl rfl ?_
  refine c_name H24 rfl (by decide) ?_
  refine wp_go rfl rfl ?_
  refine e_get rfl H23 rfl rfl ?_
  refine wp_go rfl rfl ?_
  refine wp_go rfl rfl ?_
  refine wp_cv rfl rfl rfl H24 rfl rfl rfl ?_
  refine c_name H24 rfl (by decide) ?_
  refine wp_go rfl rfl ?_
  refine e_get rfl H23 rfl rfl ?_
  refine wp_go rfl rfl ?_
  refine wp_go rfl rfl ?_
  refine wp_cv rfl rfl rfl H24 rfl rfl rfl ?_
  refine c_name H24 rfl (by decide) ?_
  refine wp_go rfl rfl ?_
  refine wp_go rfl rfl ?_
  refine e_get rfl H23 rfl rfl ?_
  refine wp_go rfl rfl ?_
  refine e_get rfl (hw_ne (by omega) (hw_ne (by omega) (hw_ne (by omega) (hw_ne (by omega) (hw_ne (by omega) Ht))))) rfl rfl ?_
  have hb5 : bnd (hc_u (hc_u (hc_u (hc_u (hc_u nm (Int.toNat 23) who) (Int.toNat 24) (mk (Int.toNat who))) (Int.toNat 25) dy) (Int.toNat 26) paid) (Int.toNat 27) rest) := bnd_u (bnd_u (bnd_u (bnd_u (bnd_u hnm (by omega)) (by omega)) (by omega)) (by omega)) (by omega)
  refine wp_cv rfl rfl rfl H24 rfl rfl rfl ?_
  obtain ⟨m, hm, HE⟩ := HG _ hb5
  have HE : WE n wd (hc_u (hc_u (hc_u (hc_u (hc_u nm (Int.toNat 23) who) (Int.toNat 24) (mk (Int.toNat who))) (Int.toNat 25) dy) (Int.toNat 26) paid) (Int.toNat 27) rest) 0 n (G who (mk (Int.toNat who)) dy paid rest) m := HE
  refine c_value (hw_ne (by omega) (hw_ne (by omega) (hw_ne (by omega) (hw_ne (by omega) (hw_ne (by omega) Hq))))) H24 rfl H26 h91 hn HE hm (fun vs' => ?_)
  generalize G who (mk (Int.toNat who)) dy paid rest = gv at k ⊢
  refine wp_go rfl rfl ?_
  refine wp_go rfl rfl ?_
  refine wp_go rfl rfl ?_
  refine wp_ret rfl rfl ?_
  simp only [hw_2]
  exact k _ vs' hb5
theorem c_toll {d : Nat} {h : hc_H} {Q : List hc_V → hc_H → Prop} {nf : Nat} {dy rn x wt tc ru sc who paid rest : Int} {mk : Nat → Int} {tx : Nat → Option Nat} {q : Option Nat} {ft fr : Option ef} {nc : Nat} {rows : Nat → Int} (H23 : h.2.2 23 = tw (nf : Int) dy rn x wt tc ru sc) (H27 : h.2.2 27 = ar 8 mk) (H29 : h.2.2 29 = .inl (3, 4, .inr tx)) (HW : WS h) (hq : rul tx tc ru = q) (HT : TXQ h q ft fr nc rows) (hw : 0 ≤ who ∧ who < 8) (hmk : ∀ j, j < 8 → 0 ≤ mk j ∧ mk j ≤ 720720) (hpd : 0 ≤ paid ∧ paid ≤ 720720) (hdy : 0 ≤ dy ∧ dy ≤ 2000) (hrs : 0 ≤ rest ∧ rest ≤ 1000) (k : ∀ h', WS h' → Fr [24, 25, 26] h h' → Q [xI (tlv ft who (mk (Int.toNat who)) dy paid rest)] h') : hc_wp (d + 3) mX7_toll 0 [xR 23, xI who, xI paid, xI rest, none, none] [] h Q := by
  match q, hq, HT with
  | none, hq, HT =>
    obtain ⟨rfl, rfl⟩ := HT
    exact c_tollN H23 H27 H29 hw hmk hpd hq (k h HW Fr.rf)
  | some t, hq, HT =>
    obtain ⟨rt, rr, ra, Ht, h91, hra, Hra, hnc, He1, He2⟩ := HT
    match rt, ft, He1 with
    | none, none, _ => exact c_toll0 H23 H27 H29 hw hmk hpd hq Ht (k h HW Fr.rf)
    | some q, some G, ⟨hq91, n, wd, Hq, hn, HG⟩ =>
      obtain ⟨⟨ht, H24⟩, ⟨nm, hnm, H25⟩, ⟨vs, H26⟩⟩ := HW
      exact c_toll1 H23 H27 H29 hw hmk hpd H24 H25 H26 hnm hq Ht h91 hq91 Hq hn HG hdy hrs (fun nm2 vs2 hb => k _ (ws_wr hb) (fr_wr (a := ar 64 nm2) (b := ar 64 vs2) (c := wk 0)))
