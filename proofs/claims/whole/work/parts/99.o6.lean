/-! the reference: all payments -/
def ntA (R : nst) (i t : Int) : Int := if i = -1 then R.1 else if (0 ≤ i ∧ i < R.1) ∧ (0 ≤ t ∧ t ≤ 2) then (if t = 0 then R.2.1 (Int.toNat i) else if t = 1 then R.2.2.1 (Int.toNat i) else R.2.2.2 (Int.toNat i)) else -2
theorem nlp_0 {sm C bl : Nat → Int} {n : nst} : ∀ g : Nat, nlp sm C bl g 0 n = n
  | 0 => rfl
  | g + 1 => by rw [nlp, if_pos rfl]
set_option maxRecDepth 100000 in
theorem l_mnet5 {d : Nat} {h0 : hc_H} {Q : List hc_V → hc_H → Prop} {op : Nat} {s sm M C smC bl B : Nat → Int} (hop : op < 256) (hb : ∀ p, p < 8 → -14414400 ≤ B p ∧ B p ≤ 14414400) (hMb : ∀ q, q < 256 → -1 ≤ M q ∧ M q ≤ 255) (hsm : ∀ q, q < 256 → sm q = smb bl q 8) (hsC : ∀ q, q ≤ op → smC q = smb bl q 8) (HC : CSQ bl C op) (HM : MQn sm M op) : ∀ (g S : Nat) (n : nst) (q : Nat) (s1 P : Nat → Int) (l3 : hc_V) (h : hc_H), dif S op = 0 → smb bl S 8 = 0 → cnb S 8 ≤ g → q + cnb S 8 ≤ 8 → n.1 = (q : Int) → s1 30 = (q : Int) → ME [30] s s1 → h.2.2 71 = mo s1 → h.2.2 80 = ar 8 B → h.2.2 81 = ar 256 sm → h.2.2 82 = ar 256 M → h.2.2 83 = ar 24 P → PR P n → Fr [71, 83] h0 h → (∀ (h2 : hc_H) (q2 : Nat) (s2 P2 : Nat → Int), (nlp smC C B g S n).1 = (q2 : Int) → q2 ≤ 8 → PR P2 (nlp smC C B g S n) → s2 30 = (q2 : Int) → ME [30] s s2 → h2.2.2 71 = mo s2 → h2.2.2 80 = ar 8 B → h2.2.2 81 = ar 256 sm → h2.2.2 82 = ar 256 M → h2.2.2 83 = ar 24 P2 → Fr [71, 83] h0 h2 → Q [] h2) → hc_wp (d + 3) mX10_net 156 [xR 71, xI (op : Int), xI (S : Int), l3] [] h Q := by
  intro g
  induction g with
  | zero =>
    intro S n q s1 P l3 h hS hs hg hqc hq e30 hme H71 H80 H81 H82 H83 HP HF k
    refine wp_go rfl rfl ?_
    refine e_ifeq rfl (fun c157 => ?_) (fun c157 => absurd (cnb_bit (S := S) (tz_at (s := S) (by omega) (by have := sub_le hS; omega)).1 (tz_at (s := S) (by omega) (by have := sub_le hS; omega)).2) (by omega))
    refine wp_ret rfl rfl ?_
    rw [show S = 0 by omega, nlp_0] at k
    exact k h q s1 P hq (by omega) HP e30 hme H71 H80 H81 H82 H83 HF
  | succ g ih =>
    intro S n q s1 P l3 h hS hs hg hqc hq e30 hme H71 H80 H81 H82 H83 HP HF k
    refine wp_go rfl rfl ?_
    refine e_ifeq rfl (fun c157 => ?_) (fun c157 => ?_)
    · skip
      refine wp_ret rfl rfl ?_
      rw [show S = 0 by omega, nlp_0] at k
      exact k h q s1 P hq (by omega) HP e30 hme H71 H80 H81 H82 H83 HF
    · skip
      refine wp_go rfl rfl ?_
      refine wp_go rfl rfl ?_
      refine wp_cv rfl rfl rfl H71 rfl rfl rfl ?_
      obtain ⟨pt, hpt⟩ : ∃ z, ptl sm M S (S + 1) 1 = z := ⟨_, rfl⟩
      have heq := pt_eq hop hsm hsC HC HM (by omega) hS hs
      rw [hpt] at heq
      have hpk := of_decide_eq_true heq.2
      have hpl := sub_le hpk.1
      have hSl := sub_le hS
      have hcd := cnb_dif hpk.1 8
      have hcb := cnb_bit tz_lt hpk.2.1
      refine c_mpart (by omega) (by omega) (fun q hq => by have := hMb q hq; omega) H71 H81 H82 ?_
      rw [hpt]
      refine e_istn (L' := [xR 71, xI (op : Int), xI (S : Int), xI (pt : Int)]) rfl rfl rfl ?_
      refine wp_go rfl rfl ?_
      refine wp_go rfl rfl ?_
      refine wp_cv rfl rfl rfl H71 rfl rfl rfl ?_
      refine c_mpair (n0 := q) (n := n) (B := B) (P := P) (by omega) hb (by omega) hq e30 H71 H80 H83 HP (fun h2 q2 s2 P2 b1 b2 b3 b4 b5 b6 b7 b8 b9 => ?_)
      refine wp_go rfl rfl ?_
      refine wp_go rfl rfl ?_
      refine wp_go rfl rfl ?_
      refine wp_go rfl rfl ?_
      refine wp_go rfl rfl ?_
      rw [b_dif (show S < 256 by omega) (show pt < 256 by omega)]
      refine e_istn (L' := [xR 71, xI (op : Int), xI ((dif S pt : Nat) : Int), xI (pt : Int)]) rfl rfl rfl ?_
      refine wp_go rfl rfl ?_
      have e9 : nlp smC C B (g + 1) S n = nlp smC C B g (dif S pt) (pal B pt n 8).2.2 := by rw [nlp, if_neg (by omega), ← heq.1]
      have hs2 : smb bl (dif S pt) 8 = 0 := by rw [smb_dif hpk.1, hs, ← hsm pt (by omega), hpk.2.2.1]; rfl
      rw [if_neg (by omega)] at b2
      refine ih (dif S pt) _ q2 s2 P2 _ h2 (sub_tr dif_sub hS) hs2 (by omega) (by omega) b1 b4 (hme.tr b5 (fun _ z => z)) b6 b7 ((b9.2.2 81 rfl).trans H81) ((b9.2.2 82 rfl).trans H82) b8 b3 (HF.tr b9 (fun _ z => z)) (fun h3 q3 s3 P3 => ?_)
      rw [← e9]
      exact k h3 q3 s3 P3
set_option maxRecDepth 100000 in
theorem c_mnet {d : Nat} {h : hc_H} {Q : List hc_V → hc_H → Prop} {s A B sm M P bc smC C py pe am0 : Nat → Int} {cs : cT} {e : dX} (hs : cOK cs) (H : RA A cs e) (he : e.1 ≤ 20) (ham : ∀ j, j < e.1 → 0 ≤ e.2.2.2.1 j ∧ e.2.2.2.1 j ≤ 720720) (hun : ∀ j, j < e.1 → e.2.1 j ≠ e.2.2.1 j) (hfo : ∀ j, j < e.1 → (0 ≤ e.2.1 j ∧ e.2.1 j < (cs.nf : Int)) ∧ (0 ≤ e.2.2.1 j ∧ e.2.2.1 j < (cs.nf : Int))) (hbc : ∀ p, p < 8 → bc p = BLE e cs.nf p) (hsC : ∀ q, q ≤ opm (BLE e cs.nf) 8 → smC q = smb bc q 8) (HC : CSQ bc C (opm (BLE e cs.nf) 8)) (H71 : h.2.2 71 = mo s) (H72 : h.2.2 72 = ar 456 A) (H80 : h.2.2 80 = ar 8 B) (H81 : h.2.2 81 = ar 256 sm) (H82 : h.2.2 82 = ar 256 M) (hM : ∀ q, q < 256 → -1 ≤ M q ∧ M q ≤ 255) (H83 : h.2.2 83 = ar 24 P) (k : ∀ (h2 : hc_H) (q2 : Nat) (s2 B2 sm2 M2 P2 : Nat → Int), (nlp smC C bc 8 (opm (BLE e cs.nf) 8) (0, py, pe, am0)).1 = (q2 : Int) → q2 ≤ 8 → PR P2 (nlp smC C bc 8 (opm (BLE e cs.nf) 8) (0, py, pe, am0)) → s2 30 = (q2 : Int) → ME [30] s s2 → h2.2.2 71 = mo s2 → h2.2.2 80 = ar 8 B2 → h2.2.2 81 = ar 256 sm2 → h2.2.2 82 = ar 256 M2 → (∀ q, q < 256 → -1 ≤ M2 q ∧ M2 q ≤ 255) → h2.2.2 83 = ar 24 P2 → Fr [71, 80, 81, 82, 83] h h2 → Q [] h2) : hc_wp (d + 3) mX10_net 0 [xR 71, none, none, none] [] h Q := by
  refine wp_go rfl rfl ?_
  refine e_istn (L' := [xR 71, xI 0, none, none]) rfl rfl rfl ?_
  refine wp_go rfl rfl ?_
  refine e_istn (L' := [xR 71, xI 0, xI 0, none]) rfl rfl rfl ?_
  refine l_mnet1 (d := d) (h0 := h) (s := s) hs H he ham hun (fun h2 B2 i2 l2 HB2 A71 A72 A80 F2 => ?_) 9 0 _ B h (by omega) (fun p hp => absurd hp (by omega)) H71 H72 H80 Fr.rf
  have hop : opm (BLE e cs.nf) 8 < 256 := opm_lt 8 (Nat.le_refl _)
  have hbl : ∀ p, p < 8 → -14414400 ≤ BLE e cs.nf p ∧ BLE e cs.nf p ≤ 14414400 := fun p hp => by
    unfold BLE blv
    split
    · have := bal_bd (dt := e.2.1) (ow := e.2.2.1) (who := (p : Int)) e.1 ham
      omega
    · omega
  have hb2 : ∀ p, p < 8 → -14414400 ≤ B2 p ∧ B2 p ≤ 14414400 := fun p hp => by rw [HB2 p hp]; exact hbl p hp
  have hz0 : smb bc (opm (BLE e cs.nf) 8) 8 = 0 := by
    rw [smb_cg hbc 8 (Nat.le_refl _), smb_opm 8 (Nat.le_refl _)]
    exact blv_sum hs.1 e.1 hfo
  refine wp_go rfl rfl ?_
  refine e_istn (L' := [xR 71, xI ((opm (BLE e cs.nf) 8 : Nat) : Int), xI 0, l2]) rfl rfl rfl ?_
  refine l_mnet3 (d := d) (h0 := h2) (s := s) (B := B2) hb2 (fun h3 sm3 i3 l4 hsm3 B71 B80 A81 F3 => ?_) 257 0 _ sm h2 (by omega) (fun q hq => absurd hq (by omega)) A71 A80 ((F2.2.2 81 rfl).trans H81) Fr.rf
  have hsm : ∀ q, q < 256 → sm3 q = smb bc q 8 := fun q hq => by rw [hsm3 q hq]; exact smb_cg (fun p hp => (HB2 p hp).trans (hbc p hp).symm) 8 (Nat.le_refl _)
  refine wp_go rfl rfl ?_
  refine e_istn (L' := [xR 71, xI ((opm (BLE e cs.nf) 8 : Nat) : Int), xI 0, l4]) rfl rfl rfl ?_
  refine l_mnet4 (d := d) (h0 := h3) (op := opm (BLE e cs.nf) 8) (sm := sm3) (s := s) hop (fun h5 M5 i5 l5 HQ hM5 C71 B81 B82 F5 => ?_) (opm (BLE e cs.nf) 8 + 2) 0 _ M h3 (by omega) ⟨fun t ht => absurd ht (by omega), hM⟩ B71 A81 ((F3.2.2 82 rfl).trans ((F2.2.2 82 rfl).trans H82)) Fr.rf
  refine wp_go rfl rfl ?_
  refine wp_go rfl rfl ?_
  refine e_put (fs' := [xR 72, xR 73, xR 74, xR 75, xI (s 4), xI (s 5), xI (s 6), xI (s 7), xI (s 8), xI (s 9), xI (s 10), xL (s 11), xI (s 12), xI (s 13), xI (s 14), xI (s 15), xR 76, xI (s 17), xI (s 18), xI (s 19), xI (s 20), xI (s 21), xI (s 22), xR 77, xR 78, xR 79, xR 80, xR 81, xR 82, xR 83, xI 0, xR 84, xR 85, xR 86, xR 87, xR 88, xR 89, xR 90]) rfl C71 rfl rfl ?_
  refine wp_go rfl rfl ?_
  refine e_istn (L' := [xR 71, xI ((opm (BLE e cs.nf) 8 : Nat) : Int), xI ((opm (BLE e cs.nf) 8 : Nat) : Int), l5]) rfl rfl rfl ?_
  refine l_mnet5 (d := d) (op := opm (BLE e cs.nf) 8) (h0 := h5) (s := s) (bl := bc) (C := C) (smC := smC) (n := (0, py, pe, am0)) hop hb2 hM5 hsm hsC HC HQ 8 _ 0 (hc_u s 30 0) P _ _ dif_self hz0 (cnb_8 _ 8) (by have := cnb_8 (opm (BLE e cs.nf) 8) 8; omega) rfl rfl (ME.rf.u rfl) rfl ((F5.2.2 80 rfl).trans B80) B81 B82 ((F5.2.2 83 rfl).trans ((F3.2.2 83 rfl).trans ((F2.2.2 83 rfl).trans H83))) (fun i hi => absurd hi (by dsimp only; omega)) ((Fr.rf (h := h5)).wr rfl) (fun h6 q6 s6 P6 => ?_)
  rw [nlp_cg (fun p hp => (HB2 p hp).trans (hbc p hp).symm)]
  intro c1 c2 c3 c4 c5 c6 c7 c8 c9 c10 c11
  exact k h6 q6 s6 _ _ _ P6 c1 c2 c3 c4 c5 c6 c7 c8 c9 hM5 c10 ((((Fr.mono F2 (nin_sub rfl)).tr (Fr.mono F3 (nin_sub rfl)) (fun _ z => z)).tr (Fr.mono F5 (nin_sub rfl)) (fun _ z => z)).tr (Fr.mono c11 (nin_sub rfl)) (fun _ z => z))
set_option maxRecDepth 100000 in
theorem c_mnetted {d : Nat} {h : hc_H} {Q : List hc_V → hc_H → Prop} {i t : Int} {s A B sm M P bc smC C py pe am0 : Nat → Int} {cs : cT} {e : dX} (hs : cOK cs) (H : RA A cs e) (he : e.1 ≤ 20) (ham : ∀ j, j < e.1 → 0 ≤ e.2.2.2.1 j ∧ e.2.2.2.1 j ≤ 720720) (hun : ∀ j, j < e.1 → e.2.1 j ≠ e.2.2.1 j) (hfo : ∀ j, j < e.1 → (0 ≤ e.2.1 j ∧ e.2.1 j < (cs.nf : Int)) ∧ (0 ≤ e.2.2.1 j ∧ e.2.2.1 j < (cs.nf : Int))) (hbc : ∀ p, p < 8 → bc p = BLE e cs.nf p) (hsC : ∀ q, q ≤ opm (BLE e cs.nf) 8 → smC q = smb bc q 8) (HC : CSQ bc C (opm (BLE e cs.nf) 8)) (H71 : h.2.2 71 = mo s) (H72 : h.2.2 72 = ar 456 A) (H80 : h.2.2 80 = ar 8 B) (H81 : h.2.2 81 = ar 256 sm) (H82 : h.2.2 82 = ar 256 M) (hM : ∀ q, q < 256 → -1 ≤ M q ∧ M q ≤ 255) (H83 : h.2.2 83 = ar 24 P) (k : ∀ (h2 : hc_H) (s2 B2 sm2 M2 P2 : Nat → Int), ME [30] s s2 → h2.2.2 71 = mo s2 → h2.2.2 80 = ar 8 B2 → h2.2.2 81 = ar 256 sm2 → h2.2.2 82 = ar 256 M2 → (∀ q, q < 256 → -1 ≤ M2 q ∧ M2 q ≤ 255) → h2.2.2 83 = ar 24 P2 → Fr [71, 80, 81, 82, 83] h h2 → Q [xI (ntA (nlp smC C bc 8 (opm (BLE e cs.nf) 8) (0, py, pe, am0)) i t)] h2) : hc_wp (d + 4) mX10_netted 0 [xR 71, xI i, xI t] [] h Q := by
  refine wp_go rfl rfl ?_
  refine wp_cv rfl rfl rfl H71 rfl rfl rfl ?_
  refine c_mnet (d := d) (py := py) (pe := pe) (am0 := am0) hs H he ham hun hfo hbc hsC HC H71 H72 H80 H81 H82 hM H83 (fun h2 q2 s2 B2 sm2 M2 P2 g1 g2 g3 g4 g5 g6 g7 g8 g9 g10 g11 g12 => ?_)
  have H71p : h2.2.2 71 = .inr (10, [xR 72, xR 73, xR 74, xR 75, xI (s2 4), xI (s2 5), xI (s2 6), xI (s2 7), xI (s2 8), xI (s2 9), xI (s2 10), xL (s2 11), xI (s2 12), xI (s2 13), xI (s2 14), xI (s2 15), xR 76, xI (s2 17), xI (s2 18), xI (s2 19), xI (s2 20), xI (s2 21), xI (s2 22), xR 77, xR 78, xR 79, xR 80, xR 81, xR 82, xR 83, xI (q2 : Int), xR 84, xR 85, xR 86, xR 87, xR 88, xR 89, xR 90]) := by rw [← g4]; exact g6
  refine wp_go rfl rfl ?_
  refine wp_go rfl rfl ?_
  refine e_cne rfl (fun c6 => ?_) (fun c6 => ?_)
  · skip
    refine wp_go rfl rfl ?_
    refine wp_go rfl rfl ?_
    refine wp_go rfl rfl ?_
    refine e_get rfl H71p rfl rfl ?_
    refine wp_go rfl rfl ?_
    refine e_isub rfl (by omega) ?_
    refine wp_call rfl rfl rfl rfl ?_
    refine c_isIn  (fun q22 => ?_) (fun q22 => ?_)
    · skip
      refine wp_go rfl rfl ?_
      refine wp_go rfl rfl ?_
      refine wp_go rfl rfl ?_
      refine wp_go rfl rfl ?_
      refine wp_call rfl rfl rfl rfl ?_
      refine c_isIn  (fun q31 => ?_) (fun q31 => ?_)
      · skip
        refine wp_go rfl rfl ?_
        refine wp_go rfl rfl ?_
        refine e_get rfl H71p rfl rfl ?_
        refine wp_go rfl rfl ?_
        refine wp_go rfl rfl ?_
        refine e_imul rfl (by omega) ?_
        refine wp_go rfl rfl ?_
        refine e_iadd rfl (by omega) ?_
        refine e_aldE (p := Int.toNat (3 * i + t)) rfl g11 rfl ⟨by omega, by omega⟩ ?_
        refine wp_go rfl rfl ?_
        refine wp_ret rfl rfl ?_
        have h9 := g3 (Int.toNat i) (by omega)
        have hr : P2 (Int.toNat (3 * i + t)) = ntA (nlp smC C bc 8 (opm (BLE e cs.nf) 8) (0, py, pe, am0)) i t := by
          unfold ntA
          rw [g1, if_neg (by omega), if_pos (by omega)]
          by_cases z0 : t = 0
          · rw [if_pos z0, ← h9.1]
            exact congrArg P2 (by omega)
          · rw [if_neg z0]
            by_cases z1 : t = 1
            · rw [if_pos z1, ← h9.2.1]
              exact congrArg P2 (by omega)
            · rw [if_neg z1, ← h9.2.2]
              exact congrArg P2 (by omega)
        rw [hr]
        exact k h2 s2 B2 sm2 M2 P2 g5 g6 g7 g8 g9 g10 g11 g12
      · skip
        refine wp_go rfl rfl ?_
        refine wp_go rfl rfl ?_
        refine wp_ret rfl rfl ?_
        have hr : (-2 : Int) = ntA (nlp smC C bc 8 (opm (BLE e cs.nf) 8) (0, py, pe, am0)) i t := by
          unfold ntA
          rw [g1, if_neg (by omega), if_neg (by omega)]
        rw [hr]
        exact k h2 s2 B2 sm2 M2 P2 g5 g6 g7 g8 g9 g10 g11 g12
    · skip
      refine wp_go rfl rfl ?_
      refine wp_go rfl rfl ?_
      refine wp_ret rfl rfl ?_
      have hr : (-2 : Int) = ntA (nlp smC C bc 8 (opm (BLE e cs.nf) 8) (0, py, pe, am0)) i t := by
        unfold ntA
        rw [g1, if_neg (by omega), if_neg (by omega)]
      rw [hr]
      exact k h2 s2 B2 sm2 M2 P2 g5 g6 g7 g8 g9 g10 g11 g12
  · skip
    refine wp_go rfl rfl ?_
    refine e_get rfl H71p rfl rfl ?_
    refine wp_ret rfl rfl ?_
    have hr : (q2 : Int) = ntA (nlp smC C bc 8 (opm (BLE e cs.nf) 8) (0, py, pe, am0)) i t := by rw [ntA, if_pos (by omega), g1]
    rw [hr]
    exact k h2 s2 B2 sm2 M2 P2 g5 g6 g7 g8 g9 g10 g11 g12
