/-! the class: Town, eighth part: marks some days ahead, the best text, the days that fit -/
def mbh (fr : Option ef) (who dy sl wet has : Int) : Nat → Int
  | 0 => has
  | n + 1 => mbh fr who dy sl wet has n - rbv fr who (mbh fr who dy sl wet has n) (dy + ((n : Int) + 1)) sl wet
theorem mbh_bd {fr : Option ef} {who dy sl wet has : Int} (h : 0 ≤ has) : ∀ n : Nat, 0 ≤ mbh fr who dy sl wet has n ∧ mbh fr who dy sl wet has n ≤ has := by
  intro n
  induction n with
  | zero => exact ⟨h, Int.le_refl _⟩
  | succ n ih =>
    have a := rbv_bd (fr := fr) (who := who) (has := mbh fr who dy sl wet has n) (day := dy + ((n : Int) + 1)) (sl := sl) (wet := wet) ih.1
    simp only [mbh]
    omega
def TQ (h : hc_H) (fk dy rn x wt tc ru sc : Int) (mk sl : Nat → Int) (tx : Nat → Option Nat) : Prop := h.2.2 23 = tw fk dy rn x wt tc ru sc ∧ h.2.2 27 = ar 8 mk ∧ h.2.2 28 = ar 8 sl ∧ h.2.2 29 = .inl (3, 4, .inr tx) ∧ WS h
theorem TQ.fr {h h2 : hc_H} {fk dy rn x wt tc ru sc : Int} {mk sl : Nat → Int} {tx : Nat → Option Nat} (H : TQ h fk dy rn x wt tc ru sc mk sl tx) (F : Fr [24, 25, 26] h h2) (W : WS h2) : TQ h2 fk dy rn x wt tc ru sc mk sl tx := by
  obtain ⟨a, b, c, e, _⟩ := H
  exact ⟨(F.2.2 23 rfl).trans a, (F.2.2 27 rfl).trans b, (F.2.2 28 rfl).trans c, (F.2.2 29 rfl).trans e, W⟩
theorem TH.tq {h : hc_H} {s : cT} (H : TH h s) : TQ h (s.nf : Int) s.dy s.rn s.x s.wt s.tc s.ru s.sc s.mk s.sl s.tx := ⟨H.1, H.2.1, H.2.2.1, H.2.2.2.1, H.2.2.2.2.2.2⟩
theorem TH.fr {h h2 : hc_H} {s : cT} (H : TH h s) (F : Fr [24, 25, 26] h h2) (W : WS h2) : TH h2 s := by
  obtain ⟨a, b, c, e, f, g, _⟩ := H
  exact ⟨(F.2.2 23 rfl).trans a, (F.2.2 27 rfl).trans b, (F.2.2 28 rfl).trans c, (F.2.2 29 rfl).trans e, (F.2.2 30 rfl).trans f, (F.2.2 31 rfl).trans g, W⟩
set_option maxRecDepth 100000 in
theorem l_mb {d : Nat} {h0 : hc_H} {Q : List hc_V → hc_H → Prop} {nf : Nat} {dy rn x wt tc ru sc : Int} {mk sl : Nat → Int} {tx : Nat → Option Nat} {q : Option Nat} {ft fr : Option ef} {nc : Nat} {rows : Nat → Int} {who m w : Int} (hnf : nf ≤ 8) (hmk : ∀ j, j < 8 → 0 ≤ mk j ∧ mk j ≤ 720720) (hsl : SL sl) (hdy : 0 ≤ dy ∧ dy ≤ 999) (hm : m ≤ 999) (hw : w = 0 ∨ w = 1) (hwho : 0 ≤ who ∧ who < (nf : Int)) (k : ∀ h2, TQ h2 (nf : Int) dy rn x wt tc ru sc mk sl tx → TXQ h2 q ft fr nc rows → Fr [24, 25, 26] h0 h2 → Q [xI (mbh fr who dy (sl (Int.toNat who)) w (mk (Int.toNat who)) (Int.toNat m))] h2) : ∀ (n j : Nat) (has i : Int) (h : hc_H), i = (j : Int) + 1 → has = mbh fr who dy (sl (Int.toNat who)) w (mk (Int.toNat who)) j → j ≤ Int.toNat m → Int.toNat m < j + n → TQ h (nf : Int) dy rn x wt tc ru sc mk sl tx → TXQ h q ft fr nc rows → Fr [24, 25, 26] h0 h → True → hc_wp (d + 4) mX7_marksBehind 21 [xR 23, xI who, xQ q, xI m, xI w, xI has, xI i] [] h Q := by
  intro n
  induction n with
  | zero =>
    intro j has i h e hh hle hn
    exact absurd hn (by omega)
  | succ n ih =>
    intro j has i h e hh hle hn H HT HF hn2
    refine wp_go rfl rfl ?_
    refine wp_go rfl rfl ?_
    refine e_cgt rfl (fun c24 => ?_) (fun c24 => ?_)
    · skip
      refine wp_go rfl rfl ?_
      refine wp_ret rfl rfl ?_
      rw [hh, show j = Int.toNat m by omega]
      exact k h H HT HF
    · skip
      have hbd := mbh_bd (fr := fr) (who := who) (dy := dy) (sl := sl (Int.toNat who)) (wet := w) (has := mk (Int.toNat who)) (hmk _ (by omega)).1 j
      have hmw := hmk (Int.toNat who) (by omega)
      rw [← hh] at hbd
      refine wp_go rfl rfl ?_
      refine wp_go rfl rfl ?_
      refine wp_go rfl rfl ?_
      refine wp_go rfl rfl ?_
      refine wp_go rfl rfl ?_
      refine wp_go rfl rfl ?_
      refine e_get rfl H.1 rfl rfl ?_
      refine wp_go rfl rfl ?_
      refine e_iadd rfl (by omega) ?_
      refine wp_go rfl rfl ?_
      refine wp_cv rfl rfl rfl H.1 rfl rfl rfl ?_
      refine c_rubs H.1 H.2.2.1 H.2.2.2.2 HT (by omega) hsl (by omega) (by omega) hw (fun h2 W2 F2 => ?_)
      obtain ⟨rv, hrv⟩ : ∃ z : Int, z = rbv fr who has (dy + i) (sl (Int.toNat who)) w := ⟨_, rfl⟩
      rw [← hrv]
      have hrb := rbv_bd (fr := fr) (who := who) (has := has) (day := dy + i) (sl := sl (Int.toNat who)) (wet := w) (by omega)
      rw [← hrv] at hrb
      refine e_isub rfl (by omega) ?_
      refine e_ist (L' := [xR 23, xI who, xQ q, xI m, xI w, xI (has - rv), xI i]) rfl rfl rfl ?_
      refine e_inc (L' := [xR 23, xI who, xQ q, xI m, xI w, xI (has - rv), xI (i + 1)]) rfl rfl (by omega) rfl ?_
      refine wp_go rfl rfl ?_
      refine ih (j + 1) _ _ h2 (by omega) ?_ (by omega) (by omega) (H.fr F2 W2) (HT.kept (F2.big rfl)) (HF.tr F2 (fun _ z => z)) hn2
      simp only [mbh]
      rw [← hh, hrv, e]
set_option maxRecDepth 100000 in
theorem c_marksBehind {d : Nat} {h : hc_H} {Q : List hc_V → hc_H → Prop} {nf : Nat} {dy rn x wt tc ru sc : Int} {mk sl : Nat → Int} {tx : Nat → Option Nat} {q : Option Nat} {ft fr : Option ef} {nc : Nat} {rows : Nat → Int} {who m w : Int} (hnf : nf ≤ 8) (hmk : ∀ j, j < 8 → 0 ≤ mk j ∧ mk j ≤ 720720) (hsl : SL sl) (hdy : 0 ≤ dy ∧ dy ≤ 999) (hm : m ≤ 999) (hw : w = 0 ∨ w = 1) (H : TQ h (nf : Int) dy rn x wt tc ru sc mk sl tx) (HT : TXQ h q ft fr nc rows) (kf : ¬ (0 ≤ who ∧ who < (nf : Int)) → Q [xI 0] h) (kt : (0 ≤ who ∧ who < (nf : Int)) → ∀ h2, TQ h2 (nf : Int) dy rn x wt tc ru sc mk sl tx → TXQ h2 q ft fr nc rows → Fr [24, 25, 26] h h2 → Q [xI (mbh fr who dy (sl (Int.toNat who)) w (mk (Int.toNat who)) (Int.toNat m))] h2) : hc_wp (d + 4) mX7_marksBehind 0 [xR 23, xI who, xQ q, xI m, xI w, none, none] [] h Q := by
  refine wp_go rfl rfl ?_
  refine wp_go rfl rfl ?_
  refine wp_cv rfl rfl rfl H.1 rfl rfl rfl ?_
  refine c_isFolk H.1 (fun q2 => ?_) (fun q2 => ?_)
  · skip
    refine wp_go rfl rfl ?_
    refine wp_go rfl rfl ?_
    refine e_get rfl H.1 rfl rfl ?_
    refine wp_go rfl rfl ?_
    refine e_ald rfl H.2.1 rfl (by omega) ?_
    refine e_ist (L' := [xR 23, xI who, xQ q, xI m, xI w, xI (mk (Int.toNat who)), none]) rfl rfl rfl ?_
    refine wp_go rfl rfl ?_
    refine e_ist (L' := [xR 23, xI who, xQ q, xI m, xI w, xI (mk (Int.toNat who)), xI 1]) rfl rfl rfl ?_
    exact l_mb hnf hmk hsl hdy hm hw (by omega) (fun h2 A C E => kt (by omega) h2 A C E) (Int.toNat m + 1) 0 _ _ h rfl rfl (by omega) (by omega) H HT Fr.rf trivial
  · skip
    refine wp_go rfl rfl ?_
    refine wp_go rfl rfl ?_
    refine wp_ret rfl rfl ?_
    exact kf (by omega)
def msm (fr : Option ef) (mk sl : Nat → Int) (dy w : Int) (m : Nat) : Nat → Int
  | 0 => 0
  | n + 1 => msm fr mk sl dy w m n + mbh fr (n : Int) dy (sl n) w (mk n) m
theorem msm_bd {fr : Option ef} {mk sl : Nat → Int} {dy w : Int} {m : Nat} : ∀ n : Nat, (∀ j, j < n → 0 ≤ mk j ∧ mk j ≤ 720720) → 0 ≤ msm fr mk sl dy w m n ∧ msm fr mk sl dy w m n ≤ 720720 * (n : Int) := by
  intro n
  induction n with
  | zero => intro _; exact ⟨Int.le_refl _, Int.le_refl _⟩
  | succ n ih =>
    intro hj
    have a := ih (fun j h => hj j (by omega))
    have b := hj n (by omega)
    have c := mbh_bd (fr := fr) (who := (n : Int)) (dy := dy) (sl := sl n) (wet := w) (has := mk n) b.1 m
    simp only [msm]
    omega
def TXS (h : hc_H) (tx : Nat → Option Nat) (tc : Int) (ftf frf : Nat → Option ef) (ncf : Nat → Nat) (rwf : Nat → Nat → Int) : Prop := ∀ t : Nat, t < 4 → (t : Int) < tc → TXQ h (tx t) (ftf t) (frf t) (ncf t) (rwf t)
theorem TXS.kept {h h' : hc_H} {tx : Nat → Option Nat} {tc : Int} {ftf frf : Nat → Option ef} {ncf : Nat → Nat} {rwf : Nat → Nat → Int} (H : TXS h tx tc ftf frf ncf rwf) (hk : ∀ a, 91 ≤ a → h'.2.2 a = h.2.2 a) : TXS h' tx tc ftf frf ncf rwf := fun t h1 h2 => (H t h1 h2).kept hk
def bst (frf : Nat → Option ef) (mk sl : Nat → Int) (dy w : Int) (m nf : Nat) : Nat → Int × Int
  | 0 => (-1, -1)
  | n + 1 => if (bst frf mk sl dy w m nf n).2 < msm (frf n) mk sl dy w m nf then ((n : Int), msm (frf n) mk sl dy w m nf) else bst frf mk sl dy w m nf n
set_option maxRecDepth 100000 in
theorem l_bt1 {d : Nat} {h0 : hc_H} {Q : List hc_V → hc_H → Prop} {nf : Nat} {dy rn x wt tc ru sc : Int} {mk sl : Nat → Int} {tx : Nat → Option Nat} {ftf frf : Nat → Option ef} {ncf : Nat → Nat} {rwf : Nat → Nat → Int} {m w : Int} {b g t : Int} {p : Nat} (hnf : nf ≤ 8) (hmk : ∀ j, j < 8 → 0 ≤ mk j ∧ mk j ≤ 720720) (hsl : SL sl) (hdy : 0 ≤ dy ∧ dy ≤ 999) (hm : m ≤ 999) (hw : w = 0 ∨ w = 1) (ht : t = (p : Int) ∧ p < 4 ∧ (p : Int) < tc) (k : ∀ h2 i2, TQ h2 (nf : Int) dy rn x wt tc ru sc mk sl tx → TXS h2 tx tc ftf frf ncf rwf → Fr [24, 25, 26] h0 h2 → hc_wp (d + 5) mX7_bestText 64 [xR 23, xI m, xI w, xI b, xI g, xI t, xI (msm (frf p) mk sl dy w (Int.toNat m) nf), xI i2] [] h2 Q) : ∀ (n j : Nat) (u i : Int) (h : hc_H), i = (j : Int) → u = msm (frf p) mk sl dy w (Int.toNat m) j → j ≤ nf → nf < j + n → TQ h (nf : Int) dy rn x wt tc ru sc mk sl tx → TXS h tx tc ftf frf ncf rwf → Fr [24, 25, 26] h0 h → True → hc_wp (d + 5) mX7_bestText 29 [xR 23, xI m, xI w, xI b, xI g, xI t, xI u, xI i] [] h Q := by
  intro n
  induction n with
  | zero =>
    intro j u i h e hu hle hn
    exact absurd hn (by omega)
  | succ n ih =>
    intro j u i h e hu hle hn H HT HF hn2
    refine wp_go rfl rfl ?_
    refine wp_go rfl rfl ?_
    refine e_get rfl H.1 rfl rfl ?_
    refine e_cge rfl (fun c35 => ?_) (fun c35 => ?_)
    · skip
      rw [show j = nf by omega] at hu
      rw [hu]
      exact k h i H HT HF
    · skip
      have hub := msm_bd (fr := frf p) (mk := mk) (sl := sl) (dy := dy) (w := w) (m := Int.toNat m) j (fun j2 h2 => hmk j2 (by omega))
      rw [← hu] at hub
      refine wp_go rfl rfl ?_
      refine wp_go rfl rfl ?_
      refine wp_go rfl rfl ?_
      refine wp_go rfl rfl ?_
      refine e_get rfl H.1 rfl rfl ?_
      refine wp_go rfl rfl ?_
      refine e_aald rfl H.2.2.2.1 (by omega) ?_
      refine wp_go rfl rfl ?_
      refine wp_go rfl rfl ?_
      refine wp_cv rfl rfl rfl H.1 rfl rfl rfl ?_
      have hTp : TXQ h (tx (Int.toNat t)) (ftf p) (frf p) (ncf p) (rwf p) := by
        rw [show Int.toNat t = p by omega]
        exact HT p (by omega) (by omega)
      refine c_marksBehind hnf hmk hsl hdy hm hw H hTp (fun q52 => absurd (show 0 ≤ i ∧ i < (nf : Int) by omega) q52) (fun q52 h2 A C F2 => ?_)
      obtain ⟨v, hv⟩ : ∃ z : Int, z = mbh (frf p) i dy (sl (Int.toNat i)) w (mk (Int.toNat i)) (Int.toNat m) := ⟨_, rfl⟩
      rw [← hv]
      have hvb := mbh_bd (fr := frf p) (who := i) (dy := dy) (sl := sl (Int.toNat i)) (wet := w) (has := mk (Int.toNat i)) (hmk _ (by omega)).1 (Int.toNat m)
      rw [← hv] at hvb
      have hmi := hmk (Int.toNat i) (by omega)
      refine e_iadd rfl (by omega) ?_
      refine e_ist (L' := [xR 23, xI m, xI w, xI b, xI g, xI t, xI (u + v), xI i]) rfl rfl rfl ?_
      refine e_inc (L' := [xR 23, xI m, xI w, xI b, xI g, xI t, xI (u + v), xI (i + 1)]) rfl rfl (by omega) rfl ?_
      refine wp_go rfl rfl ?_
      refine ih (j + 1) _ _ h2 (by omega) ?_ (by omega) (by omega) A (HT.kept (F2.big rfl)) (HF.tr F2 (fun _ z => z)) hn2
      simp only [msm]
      rw [hu, hv, e, Int.toNat_natCast]
set_option maxRecDepth 100000 in
theorem l_bt2 {d : Nat} {h0 : hc_H} {Q : List hc_V → hc_H → Prop} {nf : Nat} {dy rn x wt tc ru sc : Int} {mk sl : Nat → Int} {tx : Nat → Option Nat} {ftf frf : Nat → Option ef} {ncf : Nat → Nat} {rwf : Nat → Nat → Int} {m w : Int} (hnf : nf ≤ 8) (hmk : ∀ j, j < 8 → 0 ≤ mk j ∧ mk j ≤ 720720) (hsl : SL sl) (hdy : 0 ≤ dy ∧ dy ≤ 999) (hm : m ≤ 999) (hw : w = 0 ∨ w = 1) (htc : 0 ≤ tc ∧ tc ≤ 4) (k : ∀ h2 (p : Nat), p = Int.toNat tc → TQ h2 (nf : Int) dy rn x wt tc ru sc mk sl tx → TXS h2 tx tc ftf frf ncf rwf → Fr [24, 25, 26] h0 h2 → Q [xI (bst frf mk sl dy w (Int.toNat m) nf p).1] h2) : ∀ (n p : Nat) (b g t : Int) (l6 l7 : hc_V) (h : hc_H), t = (p : Int) → b = (bst frf mk sl dy w (Int.toNat m) nf p).1 → g = (bst frf mk sl dy w (Int.toNat m) nf p).2 → p ≤ Int.toNat tc → Int.toNat tc < p + n → TQ h (nf : Int) dy rn x wt tc ru sc mk sl tx → TXS h tx tc ftf frf ncf rwf → Fr [24, 25, 26] h0 h → True → hc_wp (d + 5) mX7_bestText 8 [xR 23, xI m, xI w, xI b, xI g, xI t, l6, l7] [] h Q := by
  intro n
  induction n with
  | zero =>
    intro p b g t l6 l7 h e hb hg hle hn
    exact absurd hn (by omega)
  | succ n ih =>
    intro p b g t l6 l7 h e hb hg hle hn H HT HF hn2
    refine wp_go rfl rfl ?_
    refine wp_go rfl rfl ?_
    refine e_get rfl H.1 rfl rfl ?_
    refine e_cge rfl (fun c14 => ?_) (fun c14 => ?_)
    · skip
      refine wp_go rfl rfl ?_
      refine wp_ret rfl rfl ?_
      rw [hb]
      refine k h p ?_ H HT HF
      omega
    · skip
      refine wp_go rfl rfl ?_
      refine wp_go rfl rfl ?_
      refine e_cge rfl (fun c20 => ?_) (fun c20 => ?_)
      · skip
        refine wp_go rfl rfl ?_
        refine wp_ret rfl rfl ?_
        rw [hb]
        refine k h p ?_ H HT HF
        omega
      · skip
        refine wp_go rfl rfl ?_
        refine e_ist (L' := [xR 23, xI m, xI w, xI b, xI g, xI t, xI 0, l7]) rfl rfl rfl ?_
        refine wp_go rfl rfl ?_
        refine e_ist (L' := [xR 23, xI m, xI w, xI b, xI g, xI t, xI 0, xI 0]) rfl rfl rfl ?_
        refine l_bt1 (h0 := h) (p := p) hnf hmk hsl hdy hm hw (by omega) (fun h2 i2 A C F2 => ?_) (nf + 1) 0 0 0 h rfl rfl (by omega) (by omega) H HT Fr.rf trivial
        refine wp_go rfl rfl ?_
        refine wp_go rfl rfl ?_
        refine e_cle rfl (fun c68 => ?_) (fun c68 => ?_)
        · skip
          refine e_inc (L' := [xR 23, xI m, xI w, xI b, xI g, xI (t + 1), xI (msm (frf p) mk sl dy w (Int.toNat m) nf), xI i2]) rfl rfl (by omega) rfl ?_
          refine wp_go rfl rfl ?_
          refine ih (p + 1) b g _ _ _ h2 (by omega) ?_ ?_ (by omega) (by omega) A C (HF.tr F2 (fun _ z => z)) hn2
          · simp only [bst]
            rw [if_neg (by rw [← hg]; exact (by omega))]
            exact hb
          · simp only [bst]
            rw [if_neg (by rw [← hg]; exact (by omega))]
            exact hg
        · skip
          refine wp_go rfl rfl ?_
          refine e_ist (L' := [xR 23, xI m, xI w, xI b, xI (msm (frf p) mk sl dy w (Int.toNat m) nf), xI t, xI (msm (frf p) mk sl dy w (Int.toNat m) nf), xI i2]) rfl rfl rfl ?_
          refine wp_go rfl rfl ?_
          refine e_istn (L' := [xR 23, xI m, xI w, xI t, xI (msm (frf p) mk sl dy w (Int.toNat m) nf), xI t, xI (msm (frf p) mk sl dy w (Int.toNat m) nf), xI i2]) rfl rfl rfl ?_
          refine e_inc (L' := [xR 23, xI m, xI w, xI t, xI (msm (frf p) mk sl dy w (Int.toNat m) nf), xI (t + 1), xI (msm (frf p) mk sl dy w (Int.toNat m) nf), xI i2]) rfl rfl (by omega) rfl ?_
          refine wp_go rfl rfl ?_
          refine ih (p + 1) t (msm (frf p) mk sl dy w (Int.toNat m) nf) _ _ _ h2 (by omega) ?_ ?_ (by omega) (by omega) A C (HF.tr F2 (fun _ z => z)) hn2
          · simp only [bst]
            rw [if_pos (by rw [← hg]; exact (by omega))]
            exact e
          · simp only [bst]
            rw [if_pos (by rw [← hg]; exact (by omega))]
set_option maxRecDepth 100000 in
theorem c_bestText {d : Nat} {h : hc_H} {Q : List hc_V → hc_H → Prop} {nf : Nat} {dy rn x wt tc ru sc : Int} {mk sl : Nat → Int} {tx : Nat → Option Nat} {ftf frf : Nat → Option ef} {ncf : Nat → Nat} {rwf : Nat → Nat → Int} {m w : Int} (hnf : nf ≤ 8) (hmk : ∀ j, j < 8 → 0 ≤ mk j ∧ mk j ≤ 720720) (hsl : SL sl) (hdy : 0 ≤ dy ∧ dy ≤ 999) (hm : m ≤ 999) (hw : w = 0 ∨ w = 1) (htc : 0 ≤ tc ∧ tc ≤ 4) (H : TQ h (nf : Int) dy rn x wt tc ru sc mk sl tx) (HT : TXS h tx tc ftf frf ncf rwf) (k : ∀ h2, TQ h2 (nf : Int) dy rn x wt tc ru sc mk sl tx → TXS h2 tx tc ftf frf ncf rwf → Fr [24, 25, 26] h h2 → Q [xI (bst frf mk sl dy w (Int.toNat m) nf (Int.toNat tc)).1] h2) : hc_wp (d + 5) mX7_bestText 0 [xR 23, xI m, xI w, none, none, none, none, none] [] h Q := by
  refine wp_go rfl rfl ?_
  refine e_istn (L' := [xR 23, xI m, xI w, xI (-1), none, none, none, none]) rfl rfl rfl ?_
  refine wp_go rfl rfl ?_
  refine e_ist (L' := [xR 23, xI m, xI w, xI (-1), xI (-1), none, none, none]) rfl rfl rfl ?_
  refine wp_go rfl rfl ?_
  refine e_ist (L' := [xR 23, xI m, xI w, xI (-1), xI (-1), xI 0, none, none]) rfl rfl rfl ?_
  exact l_bt2 hnf hmk hsl hdy hm hw htc (fun h2 p hp A C F2 => by rw [hp]; exact k h2 A C F2) (Int.toNat tc + 1) 0 (-1) (-1) 0 none none h rfl rfl rfl (by omega) (by omega) H HT Fr.rf trivial
