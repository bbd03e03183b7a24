/-! netting again, with what holds of all its cells -/
def N3 (h : hc_H) : Prop := ∃ (bl sm mo : Nat → Int), h.2.2 59 = ar 8 bl ∧ h.2.2 60 = ar 256 sm ∧ h.2.2 61 = ar 256 mo
set_option maxRecDepth 100000 in
theorem l_nw2B {d : Nat} {h0 : hc_H} {Q : List hc_V → hc_H → Prop} {nf op0 : Nat} {sm mo bl : Nat → Int} (HB : ∀ j, j < 8 → -14414400 ≤ bl j ∧ bl j ≤ 14414400) (ho : op0 < 256) (HC : ∀ t, t ≤ op0 → -1000000000 ≤ mo t ∧ mo t ≤ 1000000000) : ∀ (g op : Nat) (n : nst) (i : Int) (l5 : hc_V) (h : hc_H), (i + (g : Int) = 8 ∧ 0 ≤ i) → op ≤ op0 → (0 ≤ n.1 ∧ n.1 ≤ 8) → NH h n → h.2.2 59 = ar 8 bl → h.2.2 60 = ar 256 sm → h.2.2 61 = ar 256 mo → Fr [58, 62, 63, 64] h0 h → (∀ h2, NH h2 (nlp sm mo bl g op n) → (0 ≤ (nlp sm mo bl g op n).1 ∧ (nlp sm mo bl g op n).1 ≤ 8) → Fr [58, 62, 63, 64] h0 h2 → Q [] h2) → True → hc_wp (d + 3) mX2_work 71 [xR 58, xR 32, xI (nf : Int), xI (op : Int), xI i, l5] [] h Q := by
  intro g
  induction g with
  | zero =>
    intro op n i l5 h hi ho hnb H H59 H60 H61 HF k hT
    refine wp_go rfl rfl ?_
    refine wp_go rfl rfl ?_
    refine e_cge rfl (fun c75 => ?_) (fun c75 => absurd (show (8 : Int) ≤ i by omega) c75)
    exact wp_ret rfl rfl (k h H hnb HF)
  | succ g ih =>
    intro op n i l5 h hi hop hnb H H59 H60 H61 HF k hT
    refine wp_go rfl rfl ?_
    refine wp_go rfl rfl ?_
    refine e_cge rfl (fun c75 => ?_) (fun c75 => ?_)
    · skip
      refine wp_ret rfl rfl ?_
      first | (rw [nlp, if_pos (show op = 0 by omega)] at k; exact k h H hnb HF) | exact absurd c75 (by omega)
    · skip
      refine wp_go rfl rfl ?_
      refine e_ifeq rfl (fun c79 => ?_) (fun c79 => ?_)
      · skip
        refine wp_ret rfl rfl ?_
        first | (rw [nlp, if_pos (show op = 0 by omega)] at k; exact k h H hnb HF) | exact absurd c75 (by omega)
      · skip
        refine wp_go rfl rfl ?_
        refine wp_go rfl rfl ?_
        refine wp_cv rfl rfl rfl H.1 rfl rfl rfl ?_
        refine c_lowestSet (by omega) (by omega) H.1 H60 H61 (fun t ht => HC t (by omega)) ?_
        have hsl : lwsF sm mo op 256 (2 ^ tz op) ≤ op := lws_lt 256 (2 ^ tz op)
        obtain ⟨s, hs⟩ : ∃ z : Nat, z = lwsF sm mo op 256 (2 ^ tz op) := ⟨_, rfl⟩
        rw [← hs] at hsl
        rw [← hs]
        refine e_ist (L' := [xR 58, xR 32, xI (nf : Int), xI (op : Int), xI i, xI (s : Int)]) rfl rfl rfl ?_
        refine wp_go rfl rfl ?_
        refine wp_go rfl rfl ?_
        refine wp_cv rfl rfl rfl H.1 rfl rfl rfl ?_
        refine c_payAlong (d := d) (by omega) HB H hnb H59 (fun h2 A A2 A3 F => ?_)
        refine wp_go rfl rfl ?_
        refine wp_go rfl rfl ?_
        refine wp_go rfl rfl ?_
        refine wp_go rfl rfl ?_
        refine wp_go rfl rfl ?_
        rw [b_dif (show op < 256 by omega) (show s < 256 by omega)]
        refine e_istn (L' := [xR 58, xR 32, xI (nf : Int), xI ((dif op s : Nat) : Int), xI i, xI (s : Int)]) rfl rfl rfl ?_
        refine e_inc (L' := [xR 58, xR 32, xI (nf : Int), xI ((dif op s : Nat) : Int), xI (i + 1), xI (s : Int)]) rfl rfl (by omega) rfl ?_
        refine wp_go rfl rfl ?_
        rw [nlp, if_neg (show ¬ op = 0 by omega), ← hs] at k
        have hd := dif_le (s := op) (t := s)
        exact ih (dif op s) (pal bl s n 8).2.2 _ _ _ (by omega) (by omega) A2 A A3 ((F.2.2 60 rfl).trans H60) ((F.2.2 61 rfl).trans H61) (HF.tr (Fr.mono F (nin_sub rfl)) (fun _ z => z)) k trivial
set_option maxRecDepth 100000 in
theorem c_nworkB {d : Nat} {h : hc_H} {Q : List hc_V → hc_H → Prop} {nf cn : Nat} {pn : Int} {bl0 sm mo py pe am0 dt ow am : Nat → Int} (hcn : cn ≤ 20) (ham : ∀ j, j < cn → 0 ≤ am j ∧ am j ≤ 720720) (H58 : h.2.2 58 = net pn) (H59 : h.2.2 59 = ar 8 bl0) (H60 : h.2.2 60 = ar 256 sm) (H61 : h.2.2 61 = ar 256 mo) (H62 : h.2.2 62 = ar 8 py) (H63 : h.2.2 63 = ar 8 pe) (H64 : h.2.2 64 = ar 8 am0) (H32 : h.2.2 32 = dbt (cn : Int)) (H33 : h.2.2 33 = ar 20 dt) (H34 : h.2.2 34 = ar 20 ow) (H35 : h.2.2 35 = ar 20 am) (k : ∀ h2, NH h2 (nlp (cit (cc 8 (blv dt ow am cn nf) bl0) sm mo (opm (blv dt ow am cn nf) 8)).1 (cit (cc 8 (blv dt ow am cn nf) bl0) sm mo (opm (blv dt ow am cn nf) 8)).2 (cc 8 (blv dt ow am cn nf) bl0) 8 (opm (blv dt ow am cn nf) 8) (0, py, pe, am0)) → (0 ≤ (nlp (cit (cc 8 (blv dt ow am cn nf) bl0) sm mo (opm (blv dt ow am cn nf) 8)).1 (cit (cc 8 (blv dt ow am cn nf) bl0) sm mo (opm (blv dt ow am cn nf) 8)).2 (cc 8 (blv dt ow am cn nf) bl0) 8 (opm (blv dt ow am cn nf) 8) (0, py, pe, am0)).1 ∧ (nlp (cit (cc 8 (blv dt ow am cn nf) bl0) sm mo (opm (blv dt ow am cn nf) 8)).1 (cit (cc 8 (blv dt ow am cn nf) bl0) sm mo (opm (blv dt ow am cn nf) 8)).2 (cc 8 (blv dt ow am cn nf) bl0) 8 (opm (blv dt ow am cn nf) 8) (0, py, pe, am0)).1 ≤ 8) → N3 h2 → Fr [58, 59, 60, 61, 62, 63, 64] h h2 → Q [] h2) : hc_wp (d + 3) mX2_work 0 [xR 58, xR 32, xI (nf : Int), none, none, none] [] h Q := by
  refine wp_go rfl rfl ?_
  refine wp_go rfl rfl ?_
  refine e_put (fs' := [xR 59, xR 60, xR 61, xR 62, xR 63, xR 64, xI 0]) rfl H58 rfl rfl ?_
  refine wp_go rfl rfl ?_
  refine e_istn (L' := [xR 58, xR 32, xI (nf : Int), xI 0, none, none]) rfl rfl rfl ?_
  refine wp_go rfl rfl ?_
  refine e_ist (L' := [xR 58, xR 32, xI (nf : Int), xI 0, xI 0, none]) rfl rfl rfl ?_
  have hol : opm (blv dt ow am cn nf) 8 < 256 := opm_lt 8 (by omega)
  have HBc : ∀ j, j < 8 → -14414400 ≤ cc 8 (blv dt ow am cn nf) bl0 j ∧ cc 8 (blv dt ow am cn nf) bl0 j ≤ 14414400 := by
    intro j hj
    rw [show cc 8 (blv dt ow am cn nf) bl0 j = blv dt ow am cn nf j from if_pos hj]
    have hb := bal_bd (dt := dt) (ow := ow) (am := am) (who := (j : Int)) cn ham
    unfold blv
    split <;> omega
  refine l_nw1 (d := d) (nf := nf) (pn := 0) (bl0 := bl0) (dt := dt) (ow := ow) (am := am) hcn ham (fun h1 i2 l52 A1 A2 A3 F1 => ?_) 9 0 _ _ (by omega) rfl (by rw [cc_0]; exact H59) H32 H33 H34 H35 (Fr.rf.wr rfl) trivial
  refine wp_go rfl rfl ?_
  refine wp_go rfl rfl ?_
  refine wp_cv rfl rfl rfl A1 rfl rfl rfl ?_
  refine c_countSets (d := d + 1) hol HBc A1 A2 ((F1.2.2 60 rfl).trans H60) ((F1.2.2 61 rfl).trans H61) (fun h2 C1 C2 C3 C4 C5 F2 => ?_)
  have B1 : h1.2.2 62 = ar 8 py := (F1.2.2 62 rfl).trans H62
  have B2 : h1.2.2 63 = ar 8 pe := (F1.2.2 63 rfl).trans H63
  have B3 : h1.2.2 64 = ar 8 am0 := (F1.2.2 64 rfl).trans H64
  have G62 : h2.2.2 62 = ar 8 py := (F2.2.2 62 rfl).trans B1
  have G63 : h2.2.2 63 = ar 8 pe := (F2.2.2 63 rfl).trans B2
  have G64 : h2.2.2 64 = ar 8 am0 := (F2.2.2 64 rfl).trans B3
  refine wp_go rfl rfl ?_
  refine e_ist (L' := [xR 58, xR 32, xI (nf : Int), xI ((opm (blv dt ow am cn nf) 8 : Nat) : Int), xI 0, l52]) rfl rfl rfl ?_
  refine l_nw2B (h0 := h2) (nf := nf) (sm := (cit (cc 8 (blv dt ow am cn nf) bl0) sm mo (opm (blv dt ow am cn nf) 8)).1) HBc hol (fun t ht => ?_) 8 _ (0, py, pe, am0) 0 _ h2 (by omega) (Nat.le_refl _) (by dsimp only; omega) ⟨C1, G62, G63, G64⟩ C2 C3 C4 Fr.rf (fun h3 n1 n2 F3 => k h3 n1 n2 ⟨_, _, _, (F3.2.2 59 rfl).trans C2, (F3.2.2 60 rfl).trans C3, (F3.2.2 61 rfl).trans C4⟩ (((Fr.mono F1 (nin_sub rfl)).tr (Fr.mono F2 (nin_sub rfl)) (fun _ z => z)).tr (Fr.mono F3 (nin_sub rfl)) (fun _ z => z))) trivial
  have := C5 t (by omega)
  have hp := pcn_8' ⟨t, by omega⟩
  dsimp only at hp
  omega
set_option maxRecDepth 100000 in
theorem p_nettedB {d : Nat} {h : hc_H} {Q : List hc_V → hc_H → Prop} {i t pn : Int} {e : dX} {bl0 sm mo py pe am0 : Nat → Int} {tp : Int} {cs : cT} (he : e.1 ≤ 20) (ham : ∀ j, j < e.1 → 0 ≤ e.2.2.2.1 j ∧ e.2.2.2.1 j ≤ 720720) (H22 : h.2.2 22 = cco tp) (H : TH h cs) (H32 : h.2.2 32 = dbt (e.1 : Int)) (H33 : h.2.2 33 = ar 20 e.2.1) (H34 : h.2.2 34 = ar 20 e.2.2.1) (H35 : h.2.2 35 = ar 20 e.2.2.2.1) (H58 : h.2.2 58 = net pn) (H59 : h.2.2 59 = ar 8 bl0) (H60 : h.2.2 60 = ar 256 sm) (H61 : h.2.2 61 = ar 256 mo) (H62 : h.2.2 62 = ar 8 py) (H63 : h.2.2 63 = ar 8 pe) (H64 : h.2.2 64 = ar 8 am0) (k : ∀ h2, NH h2 (nlp (cit (cc 8 (BLE e cs.nf) bl0) sm mo (opm (BLE e cs.nf) 8)).1 (cit (cc 8 (BLE e cs.nf) bl0) sm mo (opm (BLE e cs.nf) 8)).2 (cc 8 (BLE e cs.nf) bl0) 8 (opm (BLE e cs.nf) 8) (0, py, pe, am0)) → N3 h2 → Fr [58, 59, 60, 61, 62, 63, 64] h h2 → Q [xI (ntA (nlp (cit (cc 8 (BLE e cs.nf) bl0) sm mo (opm (BLE e cs.nf) 8)).1 (cit (cc 8 (BLE e cs.nf) bl0) sm mo (opm (BLE e cs.nf) 8)).2 (cc 8 (BLE e cs.nf) bl0) 8 (opm (BLE e cs.nf) 8) (0, py, pe, am0)) i t)] h2) : hc_wp (d + 4) mX9_netted 0 [xR 22, xI i, xI t] [] h Q := by
  refine wp_go rfl rfl ?_
  refine e_get rfl H22 rfl rfl ?_
  refine wp_go rfl rfl ?_
  refine e_get rfl H22 rfl rfl ?_
  refine e_get rfl H.1 rfl rfl ?_
  refine wp_go rfl rfl ?_
  refine e_get rfl H22 rfl rfl ?_
  refine e_get rfl H.1 rfl rfl ?_
  refine wp_cv rfl rfl rfl H58 rfl rfl rfl ?_
  refine c_nworkB (d := d) (nf := cs.nf) (cn := e.1) he ham H58 H59 H60 H61 H62 H63 H64 H32 H33 H34 H35 (fun h2 n1 n2 n3 F2 => ?_)
  obtain ⟨N, hN⟩ : ∃ z, (nlp (cit (cc 8 (BLE e cs.nf) bl0) sm mo (opm (BLE e cs.nf) 8)).1 (cit (cc 8 (BLE e cs.nf) bl0) sm mo (opm (BLE e cs.nf) 8)).2 (cc 8 (BLE e cs.nf) bl0) 8 (opm (BLE e cs.nf) 8) (0, py, pe, am0)) = z := ⟨_, rfl⟩
  have N2 : NH h2 N := by rw [← hN]; exact n1
  have b2 : 0 ≤ N.1 ∧ N.1 ≤ 8 := by rw [← hN]; exact n2
  refine wp_go rfl rfl ?_
  refine wp_go rfl rfl ?_
  refine e_cne rfl (fun c23 => ?_) (fun c23 => ?_)
  · skip
    refine wp_go rfl rfl ?_
    refine e_iflt rfl (fun c35 => ?_) (fun c35 => ?_)
    · skip
      refine wp_go rfl rfl ?_
      refine wp_ret rfl rfl ?_
      have hr : (-2 : Int) = ntA N i t := by unfold ntA; rw [if_neg (by omega), if_neg (by omega)]
      rw [hr]
      rw [← hN] at N2 ⊢
      exact k h2 N2 n3 F2
    · skip
      refine wp_go rfl rfl ?_
      refine wp_go rfl rfl ?_
      refine e_get rfl ((F2.2.2 22 rfl).trans H22) rfl rfl ?_
      refine e_get rfl N2.1 rfl rfl ?_
      refine e_cge rfl (fun c46 => ?_) (fun c46 => ?_)
      · skip
        refine wp_go rfl rfl ?_
        refine wp_ret rfl rfl ?_
        have hr : (-2 : Int) = ntA N i t := by unfold ntA; rw [if_neg (by omega), if_neg (by omega)]
        rw [hr]
        rw [← hN] at N2 ⊢
        exact k h2 N2 n3 F2
      · skip
        refine wp_go rfl rfl ?_
        refine wp_go rfl rfl ?_
        refine e_clt rfl (fun c52 => ?_) (fun c52 => ?_)
        · skip
          refine wp_go rfl rfl ?_
          by_cases z59_0 : t = 0
          · subst z59_0
            refine wp_go rfl rfl ?_
            refine wp_go rfl rfl ?_
            refine e_get rfl ((F2.2.2 22 rfl).trans H22) rfl rfl ?_
            refine e_get rfl N2.1 rfl rfl ?_
            refine wp_go rfl rfl ?_
            refine e_aldE (p := Int.toNat i) rfl N2.2.1 rfl ⟨by omega, by omega⟩ ?_
            refine wp_ret rfl rfl ?_
            have hr : (N.2.1 (Int.toNat i)) = ntA N i 0 := by unfold ntA; rw [if_neg (by omega), if_pos (by omega), if_pos rfl]
            rw [hr]
            rw [← hN] at N2 ⊢
            exact k h2 N2 n3 F2
          by_cases z59_1 : t = 1
          · subst z59_1
            refine wp_go rfl rfl ?_
            refine wp_go rfl rfl ?_
            refine e_get rfl ((F2.2.2 22 rfl).trans H22) rfl rfl ?_
            refine e_get rfl N2.1 rfl rfl ?_
            refine wp_go rfl rfl ?_
            refine e_aldE (p := Int.toNat i) rfl N2.2.2.1 rfl ⟨by omega, by omega⟩ ?_
            refine wp_ret rfl rfl ?_
            have hr : (N.2.2.1 (Int.toNat i)) = ntA N i 1 := by unfold ntA; rw [if_neg (by omega), if_pos (by omega), if_neg (by decide), if_pos rfl]
            rw [hr]
            rw [← hN] at N2 ⊢
            exact k h2 N2 n3 F2
          by_cases z59_2 : t = 2
          · subst z59_2
            refine wp_go rfl rfl ?_
            refine wp_go rfl rfl ?_
            refine e_get rfl ((F2.2.2 22 rfl).trans H22) rfl rfl ?_
            refine e_get rfl N2.1 rfl rfl ?_
            refine wp_go rfl rfl ?_
            refine e_aldE (p := Int.toNat i) rfl N2.2.2.2 rfl ⟨by omega, by omega⟩ ?_
            refine wp_ret rfl rfl ?_
            have hr : (N.2.2.2 (Int.toNat i)) = ntA N i 2 := by unfold ntA; rw [if_neg (by omega), if_pos (by omega), if_neg (by decide), if_neg (by decide)]
            rw [hr]
            rw [← hN] at N2 ⊢
            exact k h2 N2 n3 F2
          refine e_tswd [0, 1, 2] rfl (by decide) rfl ?_ ?_
          · simp [z59_0, z59_1, z59_2]
          refine wp_go rfl rfl ?_
          refine wp_ret rfl rfl ?_
          have hr : (-2 : Int) = ntA N i t := by unfold ntA; rw [if_neg (by omega), if_neg (by omega)]
          rw [hr]
          rw [← hN] at N2 ⊢
          exact k h2 N2 n3 F2
        · skip
          refine wp_go rfl rfl ?_
          refine wp_ret rfl rfl ?_
          have hr : (-2 : Int) = ntA N i t := by unfold ntA; rw [if_neg (by omega), if_neg (by omega)]
          rw [hr]
          rw [← hN] at N2 ⊢
          exact k h2 N2 n3 F2
  · skip
    refine wp_go rfl rfl ?_
    refine e_get rfl ((F2.2.2 22 rfl).trans H22) rfl rfl ?_
    refine e_get rfl N2.1 rfl rfl ?_
    refine wp_ret rfl rfl ?_
    have hr : N.1 = ntA N i t := by unfold ntA; rw [if_pos (by omega)]
    rw [hr]
    rw [← hN] at N2 ⊢
    exact k h2 N2 n3 F2
set_option maxRecDepth 100000 in
theorem c_mtextB {d : Nat} {h : hc_H} {Q : List hc_V → hc_H → Prop} {B : Nat → Int} {n tc : Nat} {v : ef} {r : (Int × Nat) ⊕ (Nat × Option ef × Option ef × (Nat → Nat))} {s T f A : Nat → Int} {cs : cT} {e : dX} (hB : BY B) (hn : n ≤ 300) (hr : sTx (tK B n) (tN B n) v 25 0 0 none none (fun _ => 0) = r) (H71 : h.2.2 71 = mo s) (H72 : h.2.2 72 = ar 456 A) (H74 : h.2.2 74 = ar 2720 T) (H75 : h.2.2 75 = ar 300 B) (H76 : h.2.2 76 = ar 160 f) (e4 : s 4 = (n : Int)) (H : RA A cs e) (htc : cs.tc = (tc : Int)) (htc4 : tc ≤ 4) (k4 : tc = 4 → Q [xI (-1)] h) (kok : tc < 4 → ∀ (nc : Nat) (ft fr : Option ef) (st : Nat → Nat), r = .inr (nc, ft, fr, st) → ∀ (h2 : hc_H) (s2 T2 f2 : Nat → Int) (w : Nat) (A2 : Nat → Int), h2.2.2 71 = mo s2 → h2.2.2 72 = ar 456 A2 → h2.2.2 74 = ar 2720 T2 → h2.2.2 76 = ar 160 f2 → RA A2 (tcS cs ((tc : Int) + 1)) e → T2 (680 * tc) = (nc : Int) → nc ≤ 24 → w ≤ 300 → TXM (tK B n) (tN B n) T2 (680 * tc) nc w ft fr st → TXF (tK B n) nc ft fr st → (∀ a, a < (680 * tc) ∨ (680 * tc) + 680 ≤ a → T2 a = T a) → s2 4 = 0 → s2 5 = 0 → s2 6 = -1 → ME [4, 5, 6, 7, 8, 9, 10, 11, 12, 14, 17, 18, 19, 20, 21, 22] s s2 → Fr (72 :: mfl) h h2 → Q [xI (tc : Int)] h2) (kf : tc < 4 → ∀ (fl : Int) (k : Nat), r = .inl (fl, k) → fl ≠ 0 → ∀ (h2 : hc_H) (s2 T2 f2 : Nat → Int), h2.2.2 71 = mo s2 → h2.2.2 74 = ar 2720 T2 → h2.2.2 76 = ar 160 f2 → (∀ a, a < (680 * tc) ∨ (680 * tc) + 680 ≤ a → T2 a = T a) → s2 4 = 0 → s2 5 = fl → s2 6 = ((tP B n k : Nat) : Int) → ME [4, 5, 6, 7, 8, 9, 10, 11, 12, 14, 17, 18, 19, 20, 21, 22] s s2 → Fr mfl h h2 → Q [xI (-1)] h2) : hc_wp (d + 10) mX10_text 0 [xR 71] [] h Q := by
  refine wp_go rfl rfl ?_
  refine e_get rfl H71 rfl rfl ?_
  refine wp_go rfl rfl ?_
  refine e_aldE (p := 5) rfl H72 rfl ⟨by omega, by omega⟩ ?_
  rw [show (A 5) = (tc : Int) from (H.1.2.2.2.2.2.1).trans htc]
  refine wp_go rfl rfl ?_
  refine e_cne rfl (fun c7 => ?_) (fun c7 => ?_)
  · skip
    refine wp_go rfl rfl ?_
    refine wp_go rfl rfl ?_
    refine wp_cv rfl rfl rfl H71 rfl rfl rfl ?_
    refine c_readText (d := d) (tc := tc) hB hn hr H71 H72 H74 H75 H76 e4 (H.1.2.2.2.2.2.1.trans htc) (by omega) (fun nc ft fr st er h2 s2 T2 f2 w A71 A74 A76 hnc hnc2 hw hTM hTF hT2 HM F2 => ?_) (fun fl k er h2 s2 T2 f2 A71 A74 A76 hpl hfl hT2 HM F2 => ?_)
    · skip
      refine e_put (fs' := [xR 72, xR 73, xR 74, xR 75, xI (s2 4), xI 0, xI (s2 6), xI (s2 7), xI (s2 8), xI (s2 9), xI (s2 10), xL (s2 11), xI (s2 12), xI (s2 13), xI (s2 14), xI (s2 15), xR 76, xI (s2 17), xI (s2 18), xI (s2 19), xI (s2 20), xI (s2 21), xI (s2 22), xR 77, xR 78, xR 79, xR 80, xR 81, xR 82, xR 83, xI (s2 30), xR 84, xR 85, xR 86, xR 87, xR 88, xR 89, xR 90]) rfl A71 rfl rfl ?_
      refine wp_go rfl rfl ?_
      refine wp_go rfl rfl ?_
      refine e_get rfl rfl rfl rfl ?_
      refine wp_go rfl rfl ?_
      refine wp_go rfl rfl ?_
      refine wp_go rfl rfl ?_
      refine e_put (fs' := [xR 72, xR 73, xR 74, xR 75, xI (s2 4), xI 0, xI (-1), xI (s2 7), xI (s2 8), xI (s2 9), xI (s2 10), xL (s2 11), xI (s2 12), xI (s2 13), xI (s2 14), xI (s2 15), xR 76, xI (s2 17), xI (s2 18), xI (s2 19), xI (s2 20), xI (s2 21), xI (s2 22), xR 77, xR 78, xR 79, xR 80, xR 81, xR 82, xR 83, xI (s2 30), xR 84, xR 85, xR 86, xR 87, xR 88, xR 89, xR 90]) rfl rfl rfl rfl ?_
      refine wp_go rfl rfl ?_
      refine wp_go rfl rfl ?_
      refine e_put (fs' := [xR 72, xR 73, xR 74, xR 75, xI 0, xI 0, xI (-1), xI (s2 7), xI (s2 8), xI (s2 9), xI (s2 10), xL (s2 11), xI (s2 12), xI (s2 13), xI (s2 14), xI (s2 15), xR 76, xI (s2 17), xI (s2 18), xI (s2 19), xI (s2 20), xI (s2 21), xI (s2 22), xR 77, xR 78, xR 79, xR 80, xR 81, xR 82, xR 83, xI (s2 30), xR 84, xR 85, xR 86, xR 87, xR 88, xR 89, xR 90]) rfl rfl rfl rfl ?_
      refine wp_go rfl rfl ?_
      refine e_get rfl rfl rfl rfl ?_
      refine wp_go rfl rfl ?_
      refine wp_go rfl rfl ?_
      refine e_get rfl rfl rfl rfl ?_
      refine wp_go rfl rfl ?_
      refine wp_go rfl rfl ?_
      refine e_aldE (p := 5) rfl ((F2.2.2 72 rfl).trans H72) rfl ⟨by omega, by omega⟩ ?_
      rw [show (A 5) = (tc : Int) from (H.1.2.2.2.2.2.1).trans htc]
      refine wp_go rfl rfl ?_
      refine e_iadd rfl (by omega) ?_
      refine e_iastE (p := 5) rfl ((F2.2.2 72 rfl).trans H72) ⟨by omega, by omega⟩ ?_
      refine wp_go rfl rfl ?_
      refine e_get rfl rfl rfl rfl ?_
      refine wp_go rfl rfl ?_
      refine e_aldE (p := 5) rfl rfl rfl ⟨by omega, by omega⟩ ?_
      rw [show ((hc_u A 5 ((tc : Int) + 1)) 5) = ((tc : Int) + 1) from hu_s]
      refine wp_go rfl rfl ?_
      refine e_isub rfl (by omega) ?_
      rw [show (tc : Int) + 1 - 1 = (tc : Int) by omega]
      refine wp_ret rfl rfl ?_
      exact kok (by omega) nc ft fr st er _ (hc_u (hc_u (hc_u s2 5 0) 6 (-1)) 4 0) T2 f2 w _ rfl rfl A74 A76 (⟨⟨((hu_n (by omega)).trans H.1.1), ((hu_n (by omega)).trans H.1.2.1), ((hu_n (by omega)).trans H.1.2.2.1), ((hu_n (by omega)).trans H.1.2.2.2.1), ((hu_n (by omega)).trans H.1.2.2.2.2.1), (hu_s.trans rfl), ((hu_n (by omega)).trans H.1.2.2.2.2.2.2.1), ((hu_n (by omega)).trans H.1.2.2.2.2.2.2.2.1), ((hu_n (by omega)).trans H.1.2.2.2.2.2.2.2.2.1), ((hu_n (by omega)).trans H.1.2.2.2.2.2.2.2.2.2)⟩, fun p hp => ⟨((hu_n (by omega)).trans (H.2.1 p hp).1), ((hu_n (by omega)).trans (H.2.1 p hp).2)⟩, fun k hk => ⟨((hu_n (by omega)).trans (H.2.2.1 k hk).1), ((hu_n (by omega)).trans (H.2.2.1 k hk).2.1), ((hu_n (by omega)).trans (H.2.2.1 k hk).2.2)⟩, fun k hk => ((hu_n (by omega)).trans (H.2.2.2.1 k hk)), fun i hi => SGR.eq (H.2.2.2.2 i hi) (fun q hq => ((hu_n (by omega)).trans rfl)) (fun _ _ => rfl)⟩) hnc hnc2 hw hTM hTF hT2 rfl rfl rfl (((((ME.mono HM (nin_sub rfl)).u rfl).u rfl).u rfl)) (((((Fr.mono F2 (nin_sub rfl)).wr rfl).wr rfl).wr rfl).wr rfl)
    · skip
      refine e_put (fs' := [xR 72, xR 73, xR 74, xR 75, xI (s2 4), xI fl, xI (s2 6), xI (s2 7), xI (s2 8), xI (s2 9), xI (s2 10), xL (s2 11), xI (s2 12), xI (s2 13), xI (s2 14), xI (s2 15), xR 76, xI (s2 17), xI (s2 18), xI (s2 19), xI (s2 20), xI (s2 21), xI (s2 22), xR 77, xR 78, xR 79, xR 80, xR 81, xR 82, xR 83, xI (s2 30), xR 84, xR 85, xR 86, xR 87, xR 88, xR 89, xR 90]) rfl A71 rfl rfl ?_
      refine wp_go rfl rfl ?_
      refine wp_go rfl rfl ?_
      refine e_get rfl rfl rfl rfl ?_
      refine e_ifne rfl (fun c25 => ?_) (fun c25 => absurd c25 (by omega))
      refine wp_go rfl rfl ?_
      refine e_get rfl rfl rfl rfl ?_
      refine e_put (fs' := [xR 72, xR 73, xR 74, xR 75, xI (s2 4), xI fl, xI (s2 8), xI (s2 7), xI (s2 8), xI (s2 9), xI (s2 10), xL (s2 11), xI (s2 12), xI (s2 13), xI (s2 14), xI (s2 15), xR 76, xI (s2 17), xI (s2 18), xI (s2 19), xI (s2 20), xI (s2 21), xI (s2 22), xR 77, xR 78, xR 79, xR 80, xR 81, xR 82, xR 83, xI (s2 30), xR 84, xR 85, xR 86, xR 87, xR 88, xR 89, xR 90]) rfl rfl rfl rfl ?_
      refine wp_go rfl rfl ?_
      refine wp_go rfl rfl ?_
      refine e_put (fs' := [xR 72, xR 73, xR 74, xR 75, xI 0, xI fl, xI (s2 8), xI (s2 7), xI (s2 8), xI (s2 9), xI (s2 10), xL (s2 11), xI (s2 12), xI (s2 13), xI (s2 14), xI (s2 15), xR 76, xI (s2 17), xI (s2 18), xI (s2 19), xI (s2 20), xI (s2 21), xI (s2 22), xR 77, xR 78, xR 79, xR 80, xR 81, xR 82, xR 83, xI (s2 30), xR 84, xR 85, xR 86, xR 87, xR 88, xR 89, xR 90]) rfl rfl rfl rfl ?_
      refine wp_go rfl rfl ?_
      refine e_get rfl rfl rfl rfl ?_
      refine e_ifeq rfl (fun c48 => absurd c48 (by omega)) (fun c48 => ?_)
      refine wp_go rfl rfl ?_
      refine wp_ret rfl rfl ?_
      exact kf (by omega) fl k er hfl _ (hc_u (hc_u (hc_u s2 5 fl) 6 (s2 8)) 4 0) T2 f2 rfl A74 A76 hT2 rfl rfl hpl (((((ME.mono HM (nin_sub rfl)).u rfl).u rfl).u rfl)) ((((Fr.mono F2 (nin_sub rfl)).wr rfl).wr rfl).wr rfl)
  · skip
    refine wp_go rfl rfl ?_
    refine wp_ret rfl rfl ?_
    exact k4 (by omega)
