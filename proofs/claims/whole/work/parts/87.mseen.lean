/-! bytes; the reference: things seen, debts -/
def byv (v k : Int) : Int := hc_and (hc_shr v k) 255
theorem byq {x : BitVec 32} {k : Nat} (hk : k ≤ 24) : (x.sshiftRight k &&& 255#32) = (x >>> k &&& 255#32) := by
  apply BitVec.eq_of_getLsbD_eq
  intro i hi
  rw [BitVec.getLsbD_and, BitVec.getLsbD_and]
  by_cases c : i < 8
  · rw [BitVec.getLsbD_sshiftRight, BitVec.getLsbD_ushiftRight, if_pos (by omega)]
    rw [decide_eq_false (show ¬ 32 ≤ i by omega)]
    rfl
  · have z : ∀ j : Fin 32, 8 ≤ j.1 → (255#32).getLsbD j.1 = false := by decide
    rw [z ⟨i, hi⟩ (by show 8 ≤ i; omega), Bool.and_false, Bool.and_false]
theorem byq_24 {v : Int} : hc_and (hc_ushr v 24) 255 = byv v 24 := by
  unfold byv hc_and hc_ushr hc_shr
  rw [Int32.ofInt_toInt, Int32.ofInt_toInt]
  apply congrArg Int32.toInt
  apply Int32.toBitVec_inj.1
  exact (byq (x := (Int32.ofInt v).toBitVec) (k := 24) (by decide)).symm
theorem byq_16 {v : Int} : hc_and (hc_ushr v 16) 255 = byv v 16 := by
  unfold byv hc_and hc_ushr hc_shr
  rw [Int32.ofInt_toInt, Int32.ofInt_toInt]
  apply congrArg Int32.toInt
  apply Int32.toBitVec_inj.1
  exact (byq (x := (Int32.ofInt v).toBitVec) (k := 16) (by decide)).symm
theorem byq_8 {v : Int} : hc_and (hc_ushr v 8) 255 = byv v 8 := by
  unfold byv hc_and hc_ushr hc_shr
  rw [Int32.ofInt_toInt, Int32.ofInt_toInt]
  apply congrArg Int32.toInt
  apply Int32.toBitVec_inj.1
  exact (byq (x := (Int32.ofInt v).toBitVec) (k := 8) (by decide)).symm
theorem byq_0 {v : Int} : hc_and (hc_ushr v 0) 255 = byv v 0 := by
  unfold byv hc_and hc_ushr hc_shr
  rw [Int32.ofInt_toInt, Int32.ofInt_toInt]
  apply congrArg Int32.toInt
  apply Int32.toBitVec_inj.1
  exact (byq (x := (Int32.ofInt v).toBitVec) (k := 0) (by decide)).symm
theorem byv_bd {v k : Int} : 0 ≤ byv v k ∧ byv v k ≤ 255 := by
  unfold byv hc_and
  obtain ⟨x, hx⟩ : ∃ x, x = Int32.ofInt (hc_shr v k) := ⟨_, rfl⟩
  rw [← hx]
  have h1 : (x &&& Int32.ofInt 255).toInt = (x.toBitVec &&& 255#32).toInt := rfl
  have h2 : (x.toBitVec &&& 255#32).toNat ≤ 255 := by
    rw [BitVec.toNat_and]
    exact Nat.and_le_right
  rw [h1, BitVec.toInt_eq_toNat_of_lt (by omega)]
  omega
set_option maxRecDepth 100000 in
theorem c_mseen {d : Nat} {h : hc_H} {Q : List hc_V → hc_H → Prop} {c : Nat} {v : Int} {s A : Nat → Int} {cs : cT} {e : dX} (hs : cOK cs) (H71 : h.2.2 71 = mo s) (H72 : h.2.2 72 = ar 456 A) (H : RA A cs e) (hc : cs.sc = (c : Int)) (hc8 : c ≤ 8) (kc : v = -1 → ∀ h2 A2, h2.2.2 72 = ar 456 A2 → RA A2 (scS cs 0) e → Fr [72] h h2 → Q [xI 0] h2) (kf : v ≠ -1 → (v < 0 ∨ 720720 < v ∨ c = 8) → Q [xI (-2)] h) (kt : 0 ≤ v ∧ v ≤ 720720 → c < 8 → ∀ h2 A2, h2.2.2 72 = ar 456 A2 → RA A2 (scS cs ((c : Int) + 1)) (e.1, e.2.1, e.2.2.1, e.2.2.2.1, hc_u e.2.2.2.2 c v) → Fr [72] h h2 → Q [xI ((c : Int) + 1)] h2) : hc_wp (d + 1) mX10_seen 0 [xR 71, xI v] [] h Q := by
  refine wp_go rfl rfl ?_
  refine wp_go rfl rfl ?_
  refine e_cne rfl (fun c2 => ?_) (fun c2 => ?_)
  · skip
    refine wp_go rfl rfl ?_
    refine wp_go rfl rfl ?_
    refine e_ldc 720720 rfl rfl ?_
    refine wp_call rfl rfl rfl rfl ?_
    refine c_isIn  (fun q19 => ?_) (fun q19 => ?_)
    · skip
      refine wp_go rfl rfl ?_
      refine wp_go rfl rfl ?_
      refine e_get rfl H71 rfl rfl ?_
      refine wp_go rfl rfl ?_
      refine e_aldE (p := 9) rfl H72 rfl ⟨by omega, by omega⟩ ?_
      rw [show (A 9) = (c : Int) from ((H.1.2.2.2.2.2.2.2.2.2.trans hc))]
      refine wp_go rfl rfl ?_
      refine e_cne rfl (fun c34 => ?_) (fun c34 => ?_)
      · skip
        refine wp_go rfl rfl ?_
        refine e_get rfl H71 rfl rfl ?_
        refine wp_go rfl rfl ?_
        refine wp_go rfl rfl ?_
        refine e_get rfl H71 rfl rfl ?_
        refine wp_go rfl rfl ?_
        refine e_aldE (p := 9) rfl H72 rfl ⟨by omega, by omega⟩ ?_
        rw [show (A 9) = (c : Int) from ((H.1.2.2.2.2.2.2.2.2.2.trans hc))]
        refine e_iadd rfl (by omega) ?_
        refine wp_go rfl rfl ?_
        refine e_iastE (p := 88 + c) rfl H72 ⟨by omega, by omega⟩ ?_
        refine wp_go rfl rfl ?_
        refine e_get rfl H71 rfl rfl ?_
        refine wp_go rfl rfl ?_
        refine wp_go rfl rfl ?_
        refine e_aldE (p := 9) rfl rfl rfl ⟨by omega, by omega⟩ ?_
        rw [show ((hc_u A (88 + c) v) 9) = (c : Int) from (((hu_n (by omega)).trans (H.1.2.2.2.2.2.2.2.2.2.trans hc)))]
        refine wp_go rfl rfl ?_
        refine e_iadd rfl (by omega) ?_
        refine e_iastE (p := 9) rfl rfl ⟨by omega, by omega⟩ ?_
        refine wp_go rfl rfl ?_
        refine e_get rfl H71 rfl rfl ?_
        refine wp_go rfl rfl ?_
        refine e_aldE (p := 9) rfl rfl rfl ⟨by omega, by omega⟩ ?_
        rw [show ((hc_u (hc_u A (88 + c) v) 9 ((c : Int) + 1)) 9) = ((c : Int) + 1) from hu_s]
        refine wp_ret rfl rfl ?_
        exact kt (by omega) (by omega) _ _ rfl (H.se (by omega)) ((Fr.rf.wr rfl).wr rfl)
      · skip
        refine wp_go rfl rfl ?_
        refine wp_ret rfl rfl ?_
        exact kf (by omega) (by omega)
    · skip
      refine wp_go rfl rfl ?_
      refine wp_go rfl rfl ?_
      refine wp_ret rfl rfl ?_
      exact kf (by omega) (by omega)
  · skip
    refine wp_go rfl rfl ?_
    refine e_get rfl H71 rfl rfl ?_
    refine wp_go rfl rfl ?_
    refine wp_go rfl rfl ?_
    refine e_iastE (p := 9) rfl H72 ⟨by omega, by omega⟩ ?_
    refine wp_go rfl rfl ?_
    refine wp_ret rfl rfl ?_
    exact kc (by omega) _ _ rfl ⟨⟨((hu_n (by omega)).trans H.1.1), ((hu_n (by omega)).trans H.1.2.1), ((hu_n (by omega)).trans H.1.2.2.1), ((hu_n (by omega)).trans H.1.2.2.2.1), ((hu_n (by omega)).trans H.1.2.2.2.2.1), ((hu_n (by omega)).trans H.1.2.2.2.2.2.1), ((hu_n (by omega)).trans H.1.2.2.2.2.2.2.1), ((hu_n (by omega)).trans H.1.2.2.2.2.2.2.2.1), ((hu_n (by omega)).trans H.1.2.2.2.2.2.2.2.2.1), (hu_s.trans rfl)⟩, fun p hp => ⟨((hu_n (by omega)).trans (H.2.1 p hp).1), ((hu_n (by omega)).trans (H.2.1 p hp).2)⟩, fun k hk => ⟨((hu_n (by omega)).trans (H.2.2.1 k hk).1), ((hu_n (by omega)).trans (H.2.2.1 k hk).2.1), ((hu_n (by omega)).trans (H.2.2.1 k hk).2.2)⟩, fun k hk => ((hu_n (by omega)).trans (H.2.2.2.1 k hk)), fun i hi => SGR.eq (H.2.2.2.2 i hi) (fun q hq => ((hu_n (by omega)).trans rfl)) (fun _ _ => rfl)⟩ (Fr.rf.wr rfl)
set_option maxRecDepth 100000 in
theorem c_mowes {d : Nat} {h : hc_H} {Q : List hc_V → hc_H → Prop} {u v x : Int} {s A : Nat → Int} {cs : cT} {e : dX} (hs : cOK cs) (H71 : h.2.2 71 = mo s) (H72 : h.2.2 72 = ar 456 A) (H : RA A cs e) (he : e.1 ≤ 20) (kf : (¬ (0 ≤ u ∧ u < (cs.nf : Int)) ∨ ¬ (0 ≤ v ∧ v < (cs.nf : Int)) ∨ u = v ∨ x < 0 ∨ 720720 < x ∨ (x ≠ 0 ∧ e.1 = 20)) → Q [xI (-1)] h) (kc : (0 ≤ u ∧ u < (cs.nf : Int)) → (0 ≤ v ∧ v < (cs.nf : Int)) → u ≠ v → x = 0 → ∀ h2 A2, h2.2.2 72 = ar 456 A2 → RA A2 cs (0, e.2) → Fr [72] h h2 → Q [xI 0] h2) (kt : (0 ≤ u ∧ u < (cs.nf : Int)) → (0 ≤ v ∧ v < (cs.nf : Int)) → u ≠ v → (0 < x ∧ x ≤ 720720) → e.1 < 20 → ∀ h2 A2, h2.2.2 72 = ar 456 A2 → RA A2 cs (e.1 + 1, hc_u e.2.1 e.1 u, hc_u e.2.2.1 e.1 v, hc_u e.2.2.2.1 e.1 x, e.2.2.2.2) → Fr [72] h h2 → Q [xI ((e.1 : Int) + 1)] h2) : hc_wp (d + 2) mX10_owes 0 [xR 71, xI u, xI v, xI x, none] [] h Q := by
  have hn8 := hs.1
  refine wp_go rfl rfl ?_
  refine wp_go rfl rfl ?_
  refine wp_cv rfl rfl rfl H71 rfl rfl rfl ?_
  refine c_misF H71 H72 H.1.1 hs.1  (fun q2 => ?_) (fun q2 => ?_)
  · skip
    refine wp_go rfl rfl ?_
    refine wp_go rfl rfl ?_
    refine wp_go rfl rfl ?_
    refine wp_cv rfl rfl rfl H71 rfl rfl rfl ?_
    refine c_misF H71 H72 H.1.1 hs.1  (fun q10 => ?_) (fun q10 => ?_)
    · skip
      refine wp_go rfl rfl ?_
      refine wp_go rfl rfl ?_
      refine wp_go rfl rfl ?_
      refine e_ceq rfl (fun c18 => ?_) (fun c18 => ?_)
      · skip
        refine wp_go rfl rfl ?_
        refine wp_ret rfl rfl ?_
        exact kf (by omega)
      · skip
        refine wp_go rfl rfl ?_
        refine wp_go rfl rfl ?_
        refine e_ldc 720720 rfl rfl ?_
        refine wp_call rfl rfl rfl rfl ?_
        refine c_isIn  (fun q25 => ?_) (fun q25 => ?_)
        · skip
          refine wp_go rfl rfl ?_
          refine wp_go rfl rfl ?_
          refine e_ifne rfl (fun c34 => ?_) (fun c34 => ?_)
          · skip
            refine wp_go rfl rfl ?_
            refine e_get rfl H71 rfl rfl ?_
            refine wp_go rfl rfl ?_
            refine e_aldE (p := 8) rfl H72 rfl ⟨by omega, by omega⟩ ?_
            rw [show (A 8) = (e.1 : Int) from H.1.2.2.2.2.2.2.2.2.1]
            refine wp_go rfl rfl ?_
            refine e_cne rfl (fun c56 => ?_) (fun c56 => ?_)
            · skip
              refine wp_go rfl rfl ?_
              refine wp_go rfl rfl ?_
              refine wp_go rfl rfl ?_
              refine e_get rfl H71 rfl rfl ?_
              refine wp_go rfl rfl ?_
              refine e_aldE (p := 8) rfl H72 rfl ⟨by omega, by omega⟩ ?_
              rw [show (A 8) = (e.1 : Int) from H.1.2.2.2.2.2.2.2.2.1]
              refine e_imul rfl (by omega) ?_
              refine e_iadd rfl (by omega) ?_
              rw [show (28 : Int) + (3 * (e.1 : Int)) = ((28 + 3 * e.1 : Nat) : Int) by omega]
              refine e_ist (L' := [xR 71, xI u, xI v, xI x, xI ((28 + 3 * e.1 : Nat) : Int)]) rfl rfl rfl ?_
              refine wp_go rfl rfl ?_
              refine e_get rfl H71 rfl rfl ?_
              refine wp_go rfl rfl ?_
              refine wp_go rfl rfl ?_
              refine e_iastE (p := 28 + 3 * e.1) rfl H72 ⟨by omega, by omega⟩ ?_
              refine wp_go rfl rfl ?_
              refine e_get rfl H71 rfl rfl ?_
              refine wp_go rfl rfl ?_
              refine wp_go rfl rfl ?_
              refine e_iadd rfl (by omega) ?_
              refine wp_go rfl rfl ?_
              refine e_iastE (p := 28 + 3 * e.1 + 1) rfl rfl ⟨by omega, by omega⟩ ?_
              refine wp_go rfl rfl ?_
              refine e_get rfl H71 rfl rfl ?_
              refine wp_go rfl rfl ?_
              refine wp_go rfl rfl ?_
              refine e_iadd rfl (by omega) ?_
              refine wp_go rfl rfl ?_
              refine e_iastE (p := 28 + 3 * e.1 + 2) rfl rfl ⟨by omega, by omega⟩ ?_
              refine wp_go rfl rfl ?_
              refine e_get rfl H71 rfl rfl ?_
              refine wp_go rfl rfl ?_
              refine wp_go rfl rfl ?_
              refine e_aldE (p := 8) rfl rfl rfl ⟨by omega, by omega⟩ ?_
              rw [show ((hc_u (hc_u (hc_u A (28 + 3 * e.1) u) (28 + 3 * e.1 + 1) v) (28 + 3 * e.1 + 2) x) 8) = (e.1 : Int) from ((hu_n (by omega)).trans ((hu_n (by omega)).trans ((hu_n (by omega)).trans H.1.2.2.2.2.2.2.2.2.1)))]
              refine wp_go rfl rfl ?_
              refine e_iadd rfl (by omega) ?_
              refine e_iastE (p := 8) rfl rfl ⟨by omega, by omega⟩ ?_
              refine wp_go rfl rfl ?_
              refine e_get rfl H71 rfl rfl ?_
              refine wp_go rfl rfl ?_
              refine e_aldE (p := 8) rfl rfl rfl ⟨by omega, by omega⟩ ?_
              rw [show ((hc_u (hc_u (hc_u (hc_u A (28 + 3 * e.1) u) (28 + 3 * e.1 + 1) v) (28 + 3 * e.1 + 2) x) 8 ((e.1 : Int) + 1)) 8) = ((e.1 : Int) + 1) from hu_s]
              refine wp_ret rfl rfl ?_
              exact kt (by omega) (by omega) (by omega) (by omega) (by omega) _ _ rfl (H.ow (by omega)) ((((Fr.rf.wr rfl).wr rfl).wr rfl).wr rfl)
            · skip
              refine wp_go rfl rfl ?_
              refine wp_ret rfl rfl ?_
              exact kf (by omega)
          · skip
            refine wp_go rfl rfl ?_
            refine e_get rfl H71 rfl rfl ?_
            refine wp_go rfl rfl ?_
            refine wp_go rfl rfl ?_
            refine e_iastE (p := 8) rfl H72 ⟨by omega, by omega⟩ ?_
            refine wp_go rfl rfl ?_
            refine wp_ret rfl rfl ?_
            exact kc (by omega) (by omega) (by omega) (by omega) _ _ rfl ⟨⟨((hu_n (by omega)).trans H.1.1), ((hu_n (by omega)).trans H.1.2.1), ((hu_n (by omega)).trans H.1.2.2.1), ((hu_n (by omega)).trans H.1.2.2.2.1), ((hu_n (by omega)).trans H.1.2.2.2.2.1), ((hu_n (by omega)).trans H.1.2.2.2.2.2.1), ((hu_n (by omega)).trans H.1.2.2.2.2.2.2.1), ((hu_n (by omega)).trans H.1.2.2.2.2.2.2.2.1), (hu_s.trans rfl), ((hu_n (by omega)).trans H.1.2.2.2.2.2.2.2.2.2)⟩, fun p hp => ⟨((hu_n (by omega)).trans (H.2.1 p hp).1), ((hu_n (by omega)).trans (H.2.1 p hp).2)⟩, fun k hk => ⟨((hu_n (by omega)).trans (H.2.2.1 k hk).1), ((hu_n (by omega)).trans (H.2.2.1 k hk).2.1), ((hu_n (by omega)).trans (H.2.2.1 k hk).2.2)⟩, fun k hk => ((hu_n (by omega)).trans (H.2.2.2.1 k hk)), fun i hi => SGR.eq (H.2.2.2.2 i hi) (fun q hq => ((hu_n (by omega)).trans rfl)) (fun _ _ => rfl)⟩ (Fr.rf.wr rfl)
        · skip
          refine wp_go rfl rfl ?_
          refine wp_go rfl rfl ?_
          refine wp_ret rfl rfl ?_
          exact kf (by omega)
    · skip
      refine wp_go rfl rfl ?_
      refine wp_go rfl rfl ?_
      refine wp_ret rfl rfl ?_
      exact kf (by omega)
  · skip
    refine wp_go rfl rfl ?_
    refine wp_go rfl rfl ?_
    refine wp_ret rfl rfl ?_
    exact kf (by omega)
