/-! the reference: one step of marrying -/
abbrev MH (d : Nat) (le n : Int) (l3 l4 l5 l6 : hc_V) (h : hc_H) (Q : List hc_V → hc_H → Prop) : Prop := hc_wp (d + 2) mX10_marry 56 [xR 71, xI le, xI n, l3, l4, l5, l6] [] h Q
def cnm (nf p c : Nat) (pt : Nat → Int) : Prop := (c < nf ∧ (p : Int) < (c : Int) ∧ pt c < 0) ∨ (nf ≤ c ∧ nf % 2 = 1 ∧ ∀ q : Nat, q < nf → pt q ≠ (q : Int))
def mqq (nf p c : Nat) : Nat := if c = nf then p else c
def MM (h : hc_H) (s A pt bp lw T F : Nat → Int) : Prop := h.2.2 71 = mo s ∧ h.2.2 72 = ar 456 A ∧ h.2.2 84 = ar 8 pt ∧ h.2.2 85 = ar 8 bp ∧ h.2.2 86 = ar 64 lw ∧ h.2.2 87 = ar 9 T ∧ h.2.2 88 = ar 9 F
theorem nxf_bd {pt : Nat → Int} : ∀ g j : Nat, -1 ≤ nxf pt g j ∧ nxf pt g j < ((j + g : Nat) : Int) ∨ nxf pt g j = -1
  | 0, j => Or.inr rfl
  | g + 1, j => by
    rw [nxf]
    split
    · left
      omega
    · have := nxf_bd (pt := pt) g (j + 1)
      omega
set_option maxRecDepth 100000 in
theorem l_mcp {d : Nat} {h0 : hc_H} {Q : List hc_V → hc_H → Prop} {le n x5 : Int} {l3 l4 : hc_V} {s pt : Nat → Int} (k : ∀ h2 bp2 l6, (∀ q, q < 8 → bp2 q = pt q) → h2.2.2 71 = mo s → h2.2.2 84 = ar 8 pt → h2.2.2 85 = ar 8 bp2 → Fr [85] h0 h2 → hc_wp (d + 2) mX10_marry 239 [xR 71, xI le, xI n, l3, l4, xI x5, l6] [] h2 Q) : ∀ (g j : Nat) (bp : Nat → Int) (h : hc_H), (j ≤ 8 ∧ 8 < j + g) → (∀ q, q < j → bp q = pt q) → h.2.2 71 = mo s → h.2.2 84 = ar 8 pt → h.2.2 85 = ar 8 bp → Fr [85] h0 h → hc_wp (d + 2) mX10_marry 212 [xR 71, xI le, xI n, l3, l4, xI x5, xI (j : Int)] [] h Q := by
  intro g
  induction g with
  | zero =>
    intro j bp h hj
    exact absurd hj (by omega)
  | succ g ih =>
    intro j bp h hj HB H71 H84 H85 HF
    refine wp_go rfl rfl ?_
    refine wp_go rfl rfl ?_
    refine e_cge rfl (fun c216 => ?_) (fun c216 => ?_)
    · skip
      rw [show j = 8 by omega] at HB
      exact k h bp _ HB H71 H84 H85 HF
    · skip
      refine wp_go rfl rfl ?_
      refine e_get rfl H71 rfl rfl ?_
      refine wp_go rfl rfl ?_
      refine wp_go rfl rfl ?_
      refine e_get rfl H71 rfl rfl ?_
      refine wp_go rfl rfl ?_
      refine e_aldE (p := j) rfl H84 rfl ⟨by omega, by omega⟩ ?_
      refine e_iastE (p := j) rfl H85 ⟨by omega, by omega⟩ ?_
      refine e_inc (L' := [xR 71, xI le, xI n, l3, l4, xI x5, xI ((j : Int) + 1)]) rfl rfl (by omega) rfl ?_
      refine wp_go rfl rfl ?_
      refine ih (j + 1) _ _ (by omega) (fun q hq => ?_) H71 H84 rfl (HF.wr rfl)
      by_cases z : q = j
      · rw [z, hu_s]
      · rw [hu_n z]
        exact HB q (by omega)
set_option maxRecDepth 100000 in
theorem l_mst2 {d : Nat} {h : hc_H} {Q : List hc_V → hc_H → Prop} {nf n p q : Nat} {le : Int} {l4 l5 l6 : hc_V} {s A pt bp lw T F : Nat → Int} (hn : nf ≤ 8) (h0 : A 0 = (nf : Int)) (hpn : p < nf) (hqn : q < nf) (hn7 : n ≤ 7) (hlw : ∀ p q, p < nf → q < nf → 0 ≤ lw (8 * p + q) ∧ lw (8 * p + q) ≤ 720720) (hpb : ∀ j, j < nf → -1 ≤ (hc_u (hc_u pt p (q : Int)) q (p : Int)) j ∧ (hc_u (hc_u pt p (q : Int)) q (p : Int)) j < (nf : Int)) (H71 : h.2.2 71 = mo s) (H72 : h.2.2 72 = ar 456 A) (H84 : h.2.2 84 = ar 8 pt) (H85 : h.2.2 85 = ar 8 bp) (H86 : h.2.2 86 = ar 64 lw) (H87 : h.2.2 87 = ar 9 T) (H88 : h.2.2 88 = ar 9 F) (kpush : ∀ nx : Int, nx = nxf (hc_u (hc_u pt p (q : Int)) q (p : Int)) nf 0 → 0 ≤ nx → ∀ h2 l3 l4 l5 l6, MM h2 s A (hc_u (hc_u pt p (q : Int)) q (p : Int)) bp lw (hc_u T (n + 1) nx) (hc_u F (n + 1) nx) → Fr [84, 85, 87, 88] h h2 → MH d le ((n : Int) + 1) l3 l4 l5 l6 h2 Q) (kev1 : nxf (hc_u (hc_u pt p (q : Int)) q (p : Int)) nf 0 < 0 → ¬ le ≤ sal lw (hc_u (hc_u pt p (q : Int)) q (p : Int)) nf → ∀ h2 l3 l4 l5 l6 bp2, (∀ k, k < 8 → bp2 k = (hc_u (hc_u pt p (q : Int)) q (p : Int)) k) → MM h2 s A (hc_u (hc_u pt p (q : Int)) q (p : Int)) bp2 lw T F → Fr [84, 85, 87, 88] h h2 → MH d (sal lw (hc_u (hc_u pt p (q : Int)) q (p : Int)) nf) (n : Int) l3 l4 l5 l6 h2 Q) (kev0 : nxf (hc_u (hc_u pt p (q : Int)) q (p : Int)) nf 0 < 0 → le ≤ sal lw (hc_u (hc_u pt p (q : Int)) q (p : Int)) nf → ∀ h2 l3 l4 l5 l6, MM h2 s A (hc_u (hc_u pt p (q : Int)) q (p : Int)) bp lw T F → Fr [84, 85, 87, 88] h h2 → MH d le (n : Int) l3 l4 l5 l6 h2 Q) : hc_wp (d + 2) mX10_marry 145 [xR 71, xI le, xI (n : Int), xI (p : Int), l4, l5, l6] [xI (q : Int)] h Q := by
  refine e_ist (L' := [xR 71, xI le, xI (n : Int), xI (p : Int), xI (q : Int), l5, l6]) rfl rfl rfl ?_
  refine wp_go rfl rfl ?_
  refine e_get rfl H71 rfl rfl ?_
  refine wp_go rfl rfl ?_
  refine wp_go rfl rfl ?_
  refine e_iastE (p := p) rfl H84 ⟨by omega, by omega⟩ ?_
  refine wp_go rfl rfl ?_
  refine e_get rfl H71 rfl rfl ?_
  refine wp_go rfl rfl ?_
  refine wp_go rfl rfl ?_
  refine e_iastE (p := q) rfl rfl ⟨by omega, by omega⟩ ?_
  refine wp_go rfl rfl ?_
  refine wp_cv rfl rfl rfl H71 rfl rfl rfl ?_
  refine c_mnext (pt := (hc_u (hc_u pt p (q : Int)) q (p : Int))) hn h0 H71 H72 rfl ?_
  obtain ⟨nx, hnx⟩ : ∃ z : Int, z = nxf (hc_u (hc_u pt p (q : Int)) q (p : Int)) nf 0 := ⟨_, rfl⟩
  rw [← hnx]
  have hnb := nxf_bd (pt := (hc_u (hc_u pt p (q : Int)) q (p : Int))) nf 0
  rw [← hnx] at hnb
  refine e_ist (L' := [xR 71, xI le, xI (n : Int), xI (p : Int), xI (q : Int), xI nx, l6]) rfl rfl rfl ?_
  refine wp_go rfl rfl ?_
  refine e_iflt rfl (fun c171 => ?_) (fun c171 => ?_)
  · skip
    refine wp_go rfl rfl ?_
    refine wp_cv rfl rfl rfl H71 rfl rfl rfl ?_
    refine c_msal (pt := (hc_u (hc_u pt p (q : Int)) q (p : Int))) (lw := lw) hn h0 H71 H72 rfl H86 hpb hlw ?_
    refine wp_go rfl rfl ?_
    refine e_cge rfl (fun c201 => ?_) (fun c201 => ?_)
    · skip
      refine wp_go rfl rfl ?_
      exact kev0 (by rw [← hnx]; omega) c201 _ _ _ _ _ ⟨H71, H72, rfl, H85, H86, H87, H88⟩ ((Fr.rf.wr rfl).wr rfl)
    · skip
      refine wp_go rfl rfl ?_
      refine wp_cv rfl rfl rfl H71 rfl rfl rfl ?_
      refine c_msal (pt := (hc_u (hc_u pt p (q : Int)) q (p : Int))) (lw := lw) hn h0 H71 H72 rfl H86 hpb hlw ?_
      refine e_istn (L' := [xR 71, xI (sal lw (hc_u (hc_u pt p (q : Int)) q (p : Int)) nf), xI (n : Int), xI (p : Int), xI (q : Int), xI nx, l6]) rfl rfl rfl ?_
      refine wp_go rfl rfl ?_
      refine e_ist (L' := [xR 71, xI (sal lw (hc_u (hc_u pt p (q : Int)) q (p : Int)) nf), xI (n : Int), xI (p : Int), xI (q : Int), xI nx, xI 0]) rfl rfl rfl ?_
      refine l_mcp (d := d) (s := s) (pt := (hc_u (hc_u pt p (q : Int)) q (p : Int))) (fun h2 bp2 l6 HB2 B71 B84 B85 F2 => ?_) 9 0 bp _ (by omega) (fun q hq => absurd hq (by omega)) H71 rfl H85 Fr.rf
      refine wp_go rfl rfl ?_
      exact kev1 (by rw [← hnx]; omega) c201 _ _ _ _ _ bp2 HB2 ⟨B71, (F2.2.2 72 rfl).trans H72, B84, B85, (F2.2.2 86 rfl).trans H86, (F2.2.2 87 rfl).trans H87, (F2.2.2 88 rfl).trans H88⟩ (((Fr.rf.wr rfl).wr rfl).tr (Fr.mono F2 (nin_sub rfl)) (fun _ z => z))
  · skip
    refine e_inc (L' := [xR 71, xI le, xI ((n : Int) + 1), xI (p : Int), xI (q : Int), xI nx, l6]) rfl rfl (by omega) rfl ?_
    refine wp_go rfl rfl ?_
    refine e_get rfl H71 rfl rfl ?_
    refine wp_go rfl rfl ?_
    refine wp_go rfl rfl ?_
    refine e_iastE (p := n + 1) rfl H88 ⟨by omega, by omega⟩ ?_
    refine wp_go rfl rfl ?_
    refine e_get rfl H71 rfl rfl ?_
    refine wp_go rfl rfl ?_
    refine wp_go rfl rfl ?_
    refine e_iastE (p := n + 1) rfl H87 ⟨by omega, by omega⟩ ?_
    refine wp_go rfl rfl ?_
    refine wp_go rfl rfl ?_
    exact kpush nx hnx (by omega) _ _ _ _ _ ⟨H71, H72, rfl, H85, H86, rfl, rfl⟩ ((((Fr.rf.wr rfl).wr rfl).wr rfl).wr rfl)
set_option maxRecDepth 100000 in
theorem l_mst1 {d : Nat} {h : hc_H} {Q : List hc_V → hc_H → Prop} {nf n p c : Nat} {le : Int} {l4 l5 l6 : hc_V} {s A pt bp lw T F : Nat → Int} (hn : nf ≤ 8) (h0 : A 0 = (nf : Int)) (hpn : p < nf) (hn7 : n ≤ 7) (hcn : c ≤ nf) (eT : T n = (c : Int)) (H71 : h.2.2 71 = mo s) (H72 : h.2.2 72 = ar 456 A) (H84 : h.2.2 84 = ar 8 pt) (H85 : h.2.2 85 = ar 8 bp) (H86 : h.2.2 86 = ar 64 lw) (H87 : h.2.2 87 = ar 9 T) (H88 : h.2.2 88 = ar 9 F) (kend : nf ≤ c → ∀ h2 l3 l4 l5 l6, MM h2 s A pt bp lw (hc_u T n ((c + 1 : Nat) : Int)) F → Fr [84, 85, 87, 88] h h2 → MH d le ((n : Int) + (-1)) l3 l4 l5 l6 h2 Q) (kno : c < nf → ¬ cnm nf p (c + 1) pt → ∀ h2 l3 l4 l5 l6, MM h2 s A pt bp lw (hc_u T n ((c + 1 : Nat) : Int)) F → Fr [84, 85, 87, 88] h h2 → MH d le (n : Int) l3 l4 l5 l6 h2 Q) (kq : c < nf → cnm nf p (c + 1) pt → ∀ q : Nat, mqq nf p (c + 1) = q → ∀ h2 l4 l5 l6, h2.2.2 71 = mo s → h2.2.2 72 = ar 456 A → h2.2.2 84 = ar 8 pt → h2.2.2 85 = ar 8 bp → h2.2.2 86 = ar 64 lw → h2.2.2 87 = ar 9 (hc_u T n ((c + 1 : Nat) : Int)) → h2.2.2 88 = ar 9 F → Fr [84, 85, 87, 88] h h2 → hc_wp (d + 2) mX10_marry 145 [xR 71, xI le, xI (n : Int), xI (p : Int), l4, l5, l6] [xI (q : Int)] h2 Q) : hc_wp (d + 2) mX10_marry 72 [xR 71, xI le, xI (n : Int), xI (p : Int), l4, l5, l6] [] h Q := by
  refine wp_go rfl rfl ?_
  refine e_get rfl H71 rfl rfl ?_
  refine wp_go rfl rfl ?_
  refine wp_go rfl rfl ?_
  refine e_aldE (p := n) rfl H87 rfl ⟨by omega, by omega⟩ ?_
  rw [eT]
  refine wp_go rfl rfl ?_
  refine e_iadd rfl (by omega) ?_
  rw [show (c : Int) + 1 = ((c + 1 : Nat) : Int) from rfl]
  refine e_iastE (p := n) rfl H87 ⟨by omega, by omega⟩ ?_
  refine wp_go rfl rfl ?_
  refine e_get rfl H71 rfl rfl ?_
  refine wp_go rfl rfl ?_
  refine e_aldE (p := n) rfl rfl rfl ⟨by omega, by omega⟩ ?_
  rw [hu_s]
  refine wp_go rfl rfl ?_
  refine e_get rfl H71 rfl rfl ?_
  refine wp_go rfl rfl ?_
  refine e_aldE (p := 0) rfl H72 rfl ⟨by omega, by omega⟩ ?_
  rw [h0]
  refine e_cle rfl (fun c94 => ?_) (fun c94 => ?_)
  · skip
    refine wp_go rfl rfl ?_
    refine wp_go rfl rfl ?_
    refine wp_go rfl rfl ?_
    refine e_get rfl H71 rfl rfl ?_
    refine wp_go rfl rfl ?_
    refine e_aldE (p := n) rfl rfl rfl ⟨by omega, by omega⟩ ?_
    rw [hu_s]
    refine wp_cv rfl rfl rfl H71 rfl rfl rfl ?_
    refine c_mcan (c := c + 1) (i := (p : Int)) hn h0 H71 H72 H84 (fun q111 => ?_) (fun q111 => ?_)
    · skip
      refine wp_go rfl rfl ?_
      refine wp_go rfl rfl ?_
      refine e_get rfl H71 rfl rfl ?_
      refine wp_go rfl rfl ?_
      refine e_aldE (p := n) rfl rfl rfl ⟨by omega, by omega⟩ ?_
      rw [hu_s]
      refine wp_go rfl rfl ?_
      refine e_get rfl H71 rfl rfl ?_
      refine wp_go rfl rfl ?_
      refine e_aldE (p := 0) rfl H72 rfl ⟨by omega, by omega⟩ ?_
      rw [h0]
      refine e_cne rfl (fun c132 => ?_) (fun c132 => ?_)
      · skip
        refine wp_go rfl rfl ?_
        refine e_get rfl H71 rfl rfl ?_
        refine wp_go rfl rfl ?_
        refine e_aldE (p := n) rfl rfl rfl ⟨by omega, by omega⟩ ?_
        rw [hu_s]
        have hmq : mqq nf p (c + 1) = c + 1 := if_neg (by omega)
        exact kq (by omega) q111 (c + 1) hmq _ _ _ _ H71 H72 H84 H85 H86 rfl H88 (Fr.rf.wr rfl)
      · skip
        refine wp_go rfl rfl ?_
        refine wp_go rfl rfl ?_
        have hmq : mqq nf p (c + 1) = p := if_pos (by omega)
        exact kq (by omega) q111 p hmq _ _ _ _ H71 H72 H84 H85 H86 rfl H88 (Fr.rf.wr rfl)
    · skip
      refine wp_go rfl rfl ?_
      refine wp_go rfl rfl ?_
      exact kno (by omega) q111 _ _ _ _ _ ⟨H71, H72, H84, H85, H86, rfl, H88⟩ (Fr.rf.wr rfl)
  · skip
    refine e_inc (L' := [xR 71, xI le, xI ((n : Int) + (-1)), xI (p : Int), l4, l5, l6]) rfl rfl (by omega) rfl ?_
    refine wp_go rfl rfl ?_
    exact kend (by omega) _ _ _ _ _ ⟨H71, H72, H84, H85, H86, rfl, H88⟩ (Fr.rf.wr rfl)
set_option maxRecDepth 100000 in
theorem l_mst0 {d : Nat} {h : hc_H} {Q : List hc_V → hc_H → Prop} {n p : Nat} {le : Int} {l3 l4 l5 l6 : hc_V} {s A pt bp lw T F : Nat → Int} (hp8 : p < 8) (hn7 : n ≤ 7) (eF : F n = (p : Int)) (hpb : pt p < 8) (H71 : h.2.2 71 = mo s) (H72 : h.2.2 72 = ar 456 A) (H84 : h.2.2 84 = ar 8 pt) (H85 : h.2.2 85 = ar 8 bp) (H86 : h.2.2 86 = ar 64 lw) (H87 : h.2.2 87 = ar 9 T) (H88 : h.2.2 88 = ar 9 F) (k : ∀ pt0 : Nat → Int, ((pt p < 0 ∧ pt0 = pt) ∨ (0 ≤ pt p ∧ pt0 = hc_u (hc_u pt (Int.toNat (pt p)) (-1)) p (-1))) → ∀ h2 l4 l5 l6, h2.2.2 71 = mo s → h2.2.2 72 = ar 456 A → h2.2.2 84 = ar 8 pt0 → h2.2.2 85 = ar 8 bp → h2.2.2 86 = ar 64 lw → h2.2.2 87 = ar 9 T → h2.2.2 88 = ar 9 F → Fr [84] h h2 → hc_wp (d + 2) mX10_marry 72 [xR 71, xI le, xI (n : Int), xI (p : Int), l4, l5, l6] [] h2 Q) : MH d le (n : Int) l3 l4 l5 l6 h Q := by
  refine wp_go rfl rfl ?_
  refine e_iflt rfl (fun c57 => absurd c57 (by omega)) (fun c57 => ?_)
  refine wp_go rfl rfl ?_
  refine e_get rfl H71 rfl rfl ?_
  refine wp_go rfl rfl ?_
  refine e_aldE (p := n) rfl H88 rfl ⟨by omega, by omega⟩ ?_
  rw [eF]
  refine e_istn (L' := [xR 71, xI le, xI (n : Int), xI (p : Int), l4, l5, l6]) rfl rfl rfl ?_
  refine wp_go rfl rfl ?_
  refine wp_go rfl rfl ?_
  refine wp_cv rfl rfl rfl H71 rfl rfl rfl ?_
  refine c_mfree (i := p) (pt := pt) (by omega) hpb H71 H84 (fun qf => ?_) (fun qf h2 A2 F2 => ?_)
  · skip
    exact k pt (Or.inl ⟨qf, rfl⟩) h _ _ _ H71 H72 H84 H85 H86 H87 H88 Fr.rf
  · skip
    exact k _ (Or.inr ⟨qf, rfl⟩) h2 _ _ _ ((F2.2.2 71 rfl).trans H71) ((F2.2.2 72 rfl).trans H72) A2 ((F2.2.2 85 rfl).trans H85) ((F2.2.2 86 rfl).trans H86) ((F2.2.2 87 rfl).trans H87) ((F2.2.2 88 rfl).trans H88) F2
