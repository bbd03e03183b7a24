/-! the reference: words, names, signs between -/
set_option maxRecDepth 100000 in
theorem c_w3 {d : Nat} {h : hc_H} {Q : List hc_V → hc_H → Prop} {a b c r : Int} (hr : hc_lor (hc_lshl (hc_lor (hc_lshl a 8) b) 8) c = r) (k : Q [xL r] h) : hc_wp d mX10_w3 0 [xI a, xI b, xI c] [] h Q := by
  refine wp_go rfl rfl ?_
  refine wp_go rfl rfl ?_
  refine wp_go rfl rfl ?_
  refine wp_go rfl rfl ?_
  refine wp_go rfl rfl ?_
  refine wp_go rfl rfl ?_
  refine wp_go rfl rfl ?_
  refine wp_go rfl rfl ?_
  refine wp_go rfl rfl ?_
  refine wp_go rfl rfl ?_
  refine wp_go rfl rfl ?_
  refine wp_go rfl rfl ?_
  refine wp_ret rfl rfl ?_
  rw [hr]
  exact k
set_option maxRecDepth 100000 in
theorem c_w4 {d : Nat} {h : hc_H} {Q : List hc_V → hc_H → Prop} {a b c e r1 r : Int} (h1 : hc_lor (hc_lshl (hc_lor (hc_lshl a 8) b) 8) c = r1) (hr : hc_lor (hc_lshl r1 8) e = r) (k : Q [xL r] h) : hc_wp (d + 1) mX10_w4 0 [xI a, xI b, xI c, xI e] [] h Q := by
  refine wp_go rfl rfl ?_
  refine wp_go rfl rfl ?_
  refine wp_go rfl rfl ?_
  refine wp_call rfl rfl rfl rfl ?_
  refine c_w3 (r := r1) h1 ?_
  refine wp_go rfl rfl ?_
  refine wp_go rfl rfl ?_
  refine wp_go rfl rfl ?_
  refine wp_go rfl rfl ?_
  refine wp_go rfl rfl ?_
  refine wp_ret rfl rfl ?_
  rw [hr]
  exact k
set_option maxRecDepth 100000 in
theorem c_w5 {d : Nat} {h : hc_H} {Q : List hc_V → hc_H → Prop} {a b c e f r1 r : Int} (h1 : hc_lor (hc_lshl (hc_lor (hc_lshl a 8) b) 8) c = r1) (hr : hc_lor (hc_lshl (hc_lor (hc_lshl r1 8) e) 8) f = r) (k : Q [xL r] h) : hc_wp (d + 1) mX10_w5 0 [xI a, xI b, xI c, xI e, xI f] [] h Q := by
  refine wp_go rfl rfl ?_
  refine wp_go rfl rfl ?_
  refine wp_go rfl rfl ?_
  refine wp_call rfl rfl rfl rfl ?_
  refine c_w3 (r := r1) h1 ?_
  refine wp_go rfl rfl ?_
  refine wp_go rfl rfl ?_
  refine wp_go rfl rfl ?_
  refine wp_go rfl rfl ?_
  refine wp_go rfl rfl ?_
  refine wp_go rfl rfl ?_
  refine wp_go rfl rfl ?_
  refine wp_go rfl rfl ?_
  refine wp_go rfl rfl ?_
  refine wp_go rfl rfl ?_
  refine wp_ret rfl rfl ?_
  rw [hr]
  exact k
set_option maxRecDepth 100000 in
theorem c_isWord {d : Nat} {h : hc_H} {Q : List hc_V → hc_H → Prop} {x : Int} {s : Nat → Int} (H71 : h.2.2 71 = mo s) (kt : s 9 = 2 ∧ s 11 = x → Q [xI 1] h) (kf : ¬ (s 9 = 2 ∧ s 11 = x) → Q [xI 0] h) : hc_wp d mX10_isWord 0 [xR 71, xL x, none] [] h Q := by
  refine wp_go rfl rfl ?_
  refine e_get rfl H71 rfl rfl ?_
  refine wp_go rfl rfl ?_
  refine e_cne rfl (fun c5 => ?_) (fun c5 => ?_)
  · skip
    refine wp_go rfl rfl ?_
    refine wp_ret rfl rfl ?_
    exact kf (fun z => c5 z.1)
  · skip
    refine wp_go rfl rfl ?_
    refine e_get rfl H71 rfl rfl ?_
    refine wp_go rfl rfl ?_
    refine wp_go rfl rfl ?_
    refine e_ifne rfl (fun c14 => ?_) (fun c14 => ?_)
    · skip
      refine wp_go rfl rfl ?_
      refine wp_ret rfl rfl ?_
      exact kf (fun z => c14 (k3_eq.2 z.2))
    · skip
      refine wp_go rfl rfl ?_
      refine wp_go rfl rfl ?_
      refine wp_ret rfl rfl ?_
      exact kt ⟨c5, k3_eq.1 c14⟩
set_option maxRecDepth 100000 in
theorem c_nameOf {d : Nat} {h : hc_H} {Q : List hc_V → hc_H → Prop} {K : Int} {s : Nat → Int} (H71 : h.2.2 71 = mo s) (hK : mkd (s 9) (s 11) = K) (k : Q [xI (if 23 ≤ K ∧ K ≤ 29 then K - 23 else -1)] h) : hc_wp (d + 2) mX10_nameOf 0 [xR 71] [] h Q := by
  refine wp_go rfl rfl ?_
  refine e_get rfl H71 rfl rfl ?_
  refine wp_go rfl rfl ?_
  refine e_ceq rfl (fun c5 => ?_) (fun c5 => ?_)
  · skip
    refine wp_go rfl rfl ?_
    refine e_get rfl H71 rfl rfl ?_
    refine wp_go rfl rfl ?_
    refine wp_go rfl rfl ?_
    refine wp_go rfl rfl ?_
    refine wp_call rfl rfl rfl rfl ?_
    refine c_w3 (r := 7825519) (by decide +kernel) ?_
    refine wp_go rfl rfl ?_
    refine e_ifne rfl (fun c24x => ?_) (fun c24x => ?_)
    · skip
      have c24 := fun z => c24x (k3_eq.2 z)
      refine wp_go rfl rfl ?_
      refine e_get rfl H71 rfl rfl ?_
      refine wp_go rfl rfl ?_
      refine wp_go rfl rfl ?_
      refine wp_go rfl rfl ?_
      refine wp_go rfl rfl ?_
      refine wp_go rfl rfl ?_
      refine wp_call rfl rfl rfl rfl ?_
      refine c_w5 (r1 := 7168370) (r := 469786323827) (by decide +kernel) (by decide +kernel) ?_
      refine wp_go rfl rfl ?_
      refine e_ifne rfl (fun c47x => ?_) (fun c47x => ?_)
      · skip
        have c47 := fun z => c47x (k3_eq.2 z)
        refine wp_go rfl rfl ?_
        refine e_get rfl H71 rfl rfl ?_
        refine wp_go rfl rfl ?_
        refine wp_go rfl rfl ?_
        refine wp_go rfl rfl ?_
        refine wp_call rfl rfl rfl rfl ?_
        refine c_w3 (r := 6578553) (by decide +kernel) ?_
        refine wp_go rfl rfl ?_
        refine e_ifne rfl (fun c66x => ?_) (fun c66x => ?_)
        · skip
          have c66 := fun z => c66x (k3_eq.2 z)
          refine wp_go rfl rfl ?_
          refine e_get rfl H71 rfl rfl ?_
          refine wp_go rfl rfl ?_
          refine wp_go rfl rfl ?_
          refine wp_go rfl rfl ?_
          refine wp_go rfl rfl ?_
          refine wp_call rfl rfl rfl rfl ?_
          refine c_w4 (r1 := 7364969) (r := 1885432164) (by decide +kernel) (by decide +kernel) ?_
          refine wp_go rfl rfl ?_
          refine e_ifne rfl (fun c87x => ?_) (fun c87x => ?_)
          · skip
            have c87 := fun z => c87x (k3_eq.2 z)
            refine wp_go rfl rfl ?_
            refine e_get rfl H71 rfl rfl ?_
            refine wp_go rfl rfl ?_
            refine wp_go rfl rfl ?_
            refine wp_go rfl rfl ?_
            refine wp_go rfl rfl ?_
            refine wp_call rfl rfl rfl rfl ?_
            refine c_w4 (r1 := 7497075) (r := 1919251316) (by decide +kernel) (by decide +kernel) ?_
            refine wp_go rfl rfl ?_
            refine e_ifne rfl (fun c108x => ?_) (fun c108x => ?_)
            · skip
              have c108 := fun z => c108x (k3_eq.2 z)
              refine wp_go rfl rfl ?_
              refine e_get rfl H71 rfl rfl ?_
              refine wp_go rfl rfl ?_
              refine wp_go rfl rfl ?_
              refine wp_go rfl rfl ?_
              refine wp_call rfl rfl rfl rfl ?_
              refine c_w3 (r := 7564389) (by decide +kernel) ?_
              refine wp_go rfl rfl ?_
              refine wp_go rfl rfl ?_
              refine wp_go rfl rfl ?_
              refine wp_go rfl rfl ?_
              refine wp_go rfl rfl ?_
              refine wp_go rfl rfl ?_
              refine wp_call rfl rfl rfl rfl ?_
              refine c_w4 (r1 := 6649445) (r := 1702258035) (by decide +kernel) (by decide +kernel) ?_
              refine wp_go rfl rfl ?_
              rw [show hc_lor (hc_lshl 7564389 32) 1702258035 = 32488805071480179 by decide +kernel]
              refine wp_go rfl rfl ?_
              refine e_ifne rfl (fun c142x => ?_) (fun c142x => ?_)
              · skip
                have c142 := fun z => c142x (k3_eq.2 z)
                refine wp_go rfl rfl ?_
                refine e_get rfl H71 rfl rfl ?_
                refine wp_go rfl rfl ?_
                refine wp_go rfl rfl ?_
                refine wp_go rfl rfl ?_
                refine wp_call rfl rfl rfl rfl ?_
                refine c_w3 (r := 7824756) (by decide +kernel) ?_
                refine wp_go rfl rfl ?_
                refine e_ifne rfl (fun c163x => ?_) (fun c163x => ?_)
                · skip
                  have c163 := fun z => c163x (k3_eq.2 z)
                  refine wp_go rfl rfl ?_
                  refine wp_ret rfl rfl ?_
                  rw [if_neg] at k
                  · exact k
                  · intro z
                    have hc : K = 23 ∨ K = 24 ∨ K = 25 ∨ K = 26 ∨ K = 27 ∨ K = 28 ∨ K = 29 := by omega
                    rcases hc with hc | hc | hc | hc | hc | hc | hc
                    · exact c24 ((mkw_23 hK).2 hc).2
                    · exact c47 ((mkw_24 hK).2 hc).2
                    · exact c66 ((mkw_25 hK).2 hc).2
                    · exact c87 ((mkw_26 hK).2 hc).2
                    · exact c108 ((mkw_27 hK).2 hc).2
                    · exact c142 ((mkw_28 hK).2 hc).2
                    · exact c163 ((mkw_29 hK).2 hc).2
                · skip
                  have c163 := k3_eq.1 c163x
                  refine wp_go rfl rfl ?_
                  refine wp_go rfl rfl ?_
                  refine wp_ret rfl rfl ?_
                  have hKw : K = 29 := (mkw_29 hK).1 ⟨c5, c163⟩
                  rw [if_pos (by omega), hKw] at k
                  exact k
              · skip
                have c142 := k3_eq.1 c142x
                refine wp_go rfl rfl ?_
                refine wp_go rfl rfl ?_
                refine wp_ret rfl rfl ?_
                have hKw : K = 28 := (mkw_28 hK).1 ⟨c5, c142⟩
                rw [if_pos (by omega), hKw] at k
                exact k
            · skip
              have c108 := k3_eq.1 c108x
              refine wp_go rfl rfl ?_
              refine wp_ret rfl rfl ?_
              have hKw : K = 27 := (mkw_27 hK).1 ⟨c5, c108⟩
              rw [if_pos (by omega), hKw] at k
              exact k
          · skip
            have c87 := k3_eq.1 c87x
            refine wp_go rfl rfl ?_
            refine wp_ret rfl rfl ?_
            have hKw : K = 26 := (mkw_26 hK).1 ⟨c5, c87⟩
            rw [if_pos (by omega), hKw] at k
            exact k
        · skip
          have c66 := k3_eq.1 c66x
          refine wp_go rfl rfl ?_
          refine wp_ret rfl rfl ?_
          have hKw : K = 25 := (mkw_25 hK).1 ⟨c5, c66⟩
          rw [if_pos (by omega), hKw] at k
          exact k
      · skip
        have c47 := k3_eq.1 c47x
        refine wp_go rfl rfl ?_
        refine wp_ret rfl rfl ?_
        have hKw : K = 24 := (mkw_24 hK).1 ⟨c5, c47⟩
        rw [if_pos (by omega), hKw] at k
        exact k
    · skip
      have c24 := k3_eq.1 c24x
      refine wp_go rfl rfl ?_
      refine wp_ret rfl rfl ?_
      have hKw : K = 23 := (mkw_23 hK).1 ⟨c5, c24⟩
      rw [if_pos (by omega), hKw] at k
      exact k
  · skip
    refine wp_go rfl rfl ?_
    refine wp_ret rfl rfl ?_
    rw [if_neg] at k
    · exact k
    · intro z
      have hc : K = 23 ∨ K = 24 ∨ K = 25 ∨ K = 26 ∨ K = 27 ∨ K = 28 ∨ K = 29 := by omega
      rcases hc with hc | hc | hc | hc | hc | hc | hc
      · exact c5 ((mkw_23 hK).2 hc).1
      · exact c5 ((mkw_24 hK).2 hc).1
      · exact c5 ((mkw_25 hK).2 hc).1
      · exact c5 ((mkw_26 hK).2 hc).1
      · exact c5 ((mkw_27 hK).2 hc).1
      · exact c5 ((mkw_28 hK).2 hc).1
      · exact c5 ((mkw_29 hK).2 hc).1
set_option maxRecDepth 100000 in
theorem c_isOf {d : Nat} {h : hc_H} {Q : List hc_V → hc_H → Prop} {K lw : Int} {s : Nat → Int} (H71 : h.2.2 71 = mo s) (hlw : lw = 10 ∨ lw = 11) (e20 : s 20 = lw - 10) (hK : 23 ≤ K ∧ K ≤ 29) (kt : nok lw K = true → Q [xI 1] h) (kf : nok lw K = false → Q [xI 0] h) : hc_wp d mX10_isOf 0 [xR 71, xI (K - 23)] [] h Q := by
  refine wp_go rfl rfl ?_
  refine wp_go rfl rfl ?_
  refine e_clt rfl (fun c2 => ?_) (fun c2 => ?_)
  · skip
    refine wp_go rfl rfl ?_
    refine wp_go rfl rfl ?_
    refine wp_ret rfl rfl ?_
    exact kt (by unfold nok; simp; omega)
  · skip
    refine wp_go rfl rfl ?_
    refine wp_go rfl rfl ?_
    refine e_cge rfl (fun c7 => ?_) (fun c7 => ?_)
    · skip
      refine wp_go rfl rfl ?_
      refine e_get rfl H71 rfl rfl ?_
      refine wp_go rfl rfl ?_
      refine e_cne rfl (fun c25 => ?_) (fun c25 => ?_)
      · skip
        refine wp_go rfl rfl ?_
        refine wp_ret rfl rfl ?_
        exact kf (by unfold nok; simp; omega)
      · skip
        refine wp_go rfl rfl ?_
        refine wp_go rfl rfl ?_
        refine wp_ret rfl rfl ?_
        exact kt (by unfold nok; simp; omega)
    · skip
      refine wp_go rfl rfl ?_
      refine e_get rfl H71 rfl rfl ?_
      refine e_ifne rfl (fun c14 => ?_) (fun c14 => ?_)
      · skip
        refine wp_go rfl rfl ?_
        refine wp_ret rfl rfl ?_
        exact kf (by unfold nok; simp; omega)
      · skip
        refine wp_go rfl rfl ?_
        refine wp_go rfl rfl ?_
        refine wp_go rfl rfl ?_
        refine wp_ret rfl rfl ?_
        exact kt (by unfold nok; simp; omega)
def cmo (K : Int) : Int := if 40 ≤ K ∧ K ≤ 45 then K - 30 else -1
def bto (K : Int) (ps : List Int) : Int := if 46 ≤ K ∧ K ≤ 49 then K - 43 else if kop ps = 41 then (if cmq ps = true then (if K = 21 then 21 else if K = 20 then 22 else -1) else cmo K) else -1
set_option maxRecDepth 100000 in
theorem c_compareOf {d : Nat} {h : hc_H} {Q : List hc_V → hc_H → Prop} {K : Int} {s : Nat → Int} (H71 : h.2.2 71 = mo s) (hK : mkd (s 9) (s 11) = K) (k : Q [xI (cmo K)] h) : hc_wp d mX10_compareOf 0 [xR 71] [] h Q := by
  refine wp_go rfl rfl ?_
  refine e_get rfl H71 rfl rfl ?_
  refine wp_go rfl rfl ?_
  refine e_cne rfl (fun c6 => ?_) (fun c6 => ?_)
  · skip
    refine wp_go rfl rfl ?_
    refine e_get rfl H71 rfl rfl ?_
    refine wp_go rfl rfl ?_
    refine e_cne rfl (fun c19 => ?_) (fun c19 => ?_)
    · skip
      refine wp_go rfl rfl ?_
      refine e_get rfl H71 rfl rfl ?_
      refine wp_go rfl rfl ?_
      refine e_cne rfl (fun c33 => ?_) (fun c33 => ?_)
      · skip
        refine wp_go rfl rfl ?_
        refine e_get rfl H71 rfl rfl ?_
        refine wp_go rfl rfl ?_
        refine e_cne rfl (fun c46 => ?_) (fun c46 => ?_)
        · skip
          refine wp_go rfl rfl ?_
          refine e_get rfl H71 rfl rfl ?_
          refine wp_go rfl rfl ?_
          refine e_cne rfl (fun c60 => ?_) (fun c60 => ?_)
          · skip
            refine wp_go rfl rfl ?_
            refine e_get rfl H71 rfl rfl ?_
            refine wp_go rfl rfl ?_
            refine e_cne rfl (fun c74 => ?_) (fun c74 => ?_)
            · skip
              refine wp_go rfl rfl ?_
              refine wp_ret rfl rfl ?_
              have h40 := mks_40 hK
              have h41 := mks_41 hK
              have h42 := mks_42 hK
              have h43 := mks_43 hK
              have h44 := mks_44 hK
              have h45 := mks_45 hK
              rw [show cmo K = ((-1) : Int) by unfold cmo; split <;> omega] at k
              exact k
            · skip
              refine wp_go rfl rfl ?_
              refine wp_go rfl rfl ?_
              refine wp_ret rfl rfl ?_
              have h40 := mks_40 hK
              have h41 := mks_41 hK
              have h42 := mks_42 hK
              have h43 := mks_43 hK
              have h44 := mks_44 hK
              have h45 := mks_45 hK
              rw [show cmo K = (15 : Int) by unfold cmo; split <;> omega] at k
              exact k
          · skip
            refine wp_go rfl rfl ?_
            refine wp_go rfl rfl ?_
            refine wp_ret rfl rfl ?_
            have h40 := mks_40 hK
            have h41 := mks_41 hK
            have h42 := mks_42 hK
            have h43 := mks_43 hK
            have h44 := mks_44 hK
            have h45 := mks_45 hK
            rw [show cmo K = (14 : Int) by unfold cmo; split <;> omega] at k
            exact k
        · skip
          refine wp_go rfl rfl ?_
          refine wp_go rfl rfl ?_
          refine wp_ret rfl rfl ?_
          have h40 := mks_40 hK
          have h41 := mks_41 hK
          have h42 := mks_42 hK
          have h43 := mks_43 hK
          have h44 := mks_44 hK
          have h45 := mks_45 hK
          rw [show cmo K = (13 : Int) by unfold cmo; split <;> omega] at k
          exact k
      · skip
        refine wp_go rfl rfl ?_
        refine wp_go rfl rfl ?_
        refine wp_ret rfl rfl ?_
        have h40 := mks_40 hK
        have h41 := mks_41 hK
        have h42 := mks_42 hK
        have h43 := mks_43 hK
        have h44 := mks_44 hK
        have h45 := mks_45 hK
        rw [show cmo K = (12 : Int) by unfold cmo; split <;> omega] at k
        exact k
    · skip
      refine wp_go rfl rfl ?_
      refine wp_go rfl rfl ?_
      refine wp_ret rfl rfl ?_
      have h40 := mks_40 hK
      have h41 := mks_41 hK
      have h42 := mks_42 hK
      have h43 := mks_43 hK
      have h44 := mks_44 hK
      have h45 := mks_45 hK
      rw [show cmo K = (11 : Int) by unfold cmo; split <;> omega] at k
      exact k
  · skip
    refine wp_go rfl rfl ?_
    refine wp_go rfl rfl ?_
    refine wp_ret rfl rfl ?_
    have h40 := mks_40 hK
    have h41 := mks_41 hK
    have h42 := mks_42 hK
    have h43 := mks_43 hK
    have h44 := mks_44 hK
    have h45 := mks_45 hK
    rw [show cmo K = (10 : Int) by unfold cmo; split <;> omega] at k
    exact k
set_option maxRecDepth 100000 in
theorem c_betweenOf {d : Nat} {h : hc_H} {Q : List hc_V → hc_H → Prop} {K : Int} {ps : List Int} {s f : Nat → Int} (hK : mkd (s 9) (s 11) = K) (H71 : h.2.2 71 = mo s) (H76 : h.2.2 76 = ar 160 f) (e17 : s 17 = (ps.length : Int)) (hl : ps.length ≤ 160) (hp : PL f ps) (k : Q [xI (bto K ps)] h) : hc_wp (d + 2) mX10_betweenOf 0 [xR 71, xI 0] [] h Q := by
  have h46 := mks_46 hK
  have h47 := mks_47 hK
  have h48 := mks_48 hK
  have h49 := mks_49 hK
  refine wp_go rfl rfl ?_
  refine e_get rfl H71 rfl rfl ?_
  refine wp_go rfl rfl ?_
  refine e_cne rfl (fun c6 => ?_) (fun c6 => ?_)
  · skip
    refine wp_go rfl rfl ?_
    refine e_get rfl H71 rfl rfl ?_
    refine wp_go rfl rfl ?_
    refine e_cne rfl (fun c17 => ?_) (fun c17 => ?_)
    · skip
      refine wp_go rfl rfl ?_
      refine e_get rfl H71 rfl rfl ?_
      refine wp_go rfl rfl ?_
      refine e_cne rfl (fun c28 => ?_) (fun c28 => ?_)
      · skip
        refine wp_go rfl rfl ?_
        refine e_get rfl H71 rfl rfl ?_
        refine wp_go rfl rfl ?_
        refine e_cne rfl (fun c39 => ?_) (fun c39 => ?_)
        · skip
          refine wp_go rfl rfl ?_
          refine wp_go rfl rfl ?_
          refine wp_cv rfl rfl rfl H71 rfl rfl rfl ?_
          refine c_kop H71 H76 e17 hl hp ?_
          refine wp_go rfl rfl ?_
          refine e_ceq rfl (fun c52 => ?_) (fun c52 => ?_)
          · skip
            refine wp_go rfl rfl ?_
            refine wp_cv rfl rfl rfl H71 rfl rfl rfl ?_
            refine c_cmq H71 H76 e17 hl hp (fun q58 => ?_) (fun q58 => ?_)
            · skip
              refine wp_go rfl rfl ?_
              refine wp_go rfl rfl ?_
              refine wp_go rfl rfl ?_
              refine wp_go rfl rfl ?_
              refine wp_go rfl rfl ?_
              refine wp_call rfl rfl rfl rfl ?_
              refine c_w3 (r := 6385252) (by decide +kernel) ?_
              refine wp_cv rfl rfl rfl H71 rfl rfl rfl ?_
              refine c_isWord H71 (fun q79 => ?_) (fun q79 => ?_)
              · skip
                refine wp_go rfl rfl ?_
                refine wp_go rfl rfl ?_
                refine wp_go rfl rfl ?_
                refine wp_ret rfl rfl ?_
                have hn4 : ¬ (46 ≤ K ∧ K ≤ 49) := by omega
                have h21 := mkw_21 hK
                have h20 := mkw_20 hK
                rw [show bto K ps = 21 by unfold bto; rw [if_neg hn4, if_pos c52, if_pos q58, if_pos (show K = 21 by omega)]] at k
                exact k
              · skip
                refine wp_go rfl rfl ?_
                refine wp_go rfl rfl ?_
                refine e_get rfl H71 rfl rfl ?_
                refine wp_go rfl rfl ?_
                refine e_cne rfl (fun c95 => ?_) (fun c95 => ?_)
                · skip
                  refine wp_go rfl rfl ?_
                  refine wp_ret rfl rfl ?_
                  have hn4 : ¬ (46 ≤ K ∧ K ≤ 49) := by omega
                  have h21 := mkw_21 hK
                  have h20 := mkw_20 hK
                  rw [show bto K ps = (-1) by unfold bto; rw [if_neg hn4, if_pos c52, if_pos q58, if_neg (show ¬ K = 21 by omega), if_neg (show ¬ K = 20 by omega)]] at k
                  exact k
                · skip
                  refine wp_go rfl rfl ?_
                  refine e_get rfl H71 rfl rfl ?_
                  refine e_ldc2 (28530) rfl rfl ?_
                  refine wp_go rfl rfl ?_
                  refine e_ifne rfl (fun c106 => ?_) (fun c106 => ?_)
                  · skip
                    refine wp_go rfl rfl ?_
                    refine wp_ret rfl rfl ?_
                    have hn4 : ¬ (46 ≤ K ∧ K ≤ 49) := by omega
                    have h21 := mkw_21 hK
                    have h20 := mkw_20 hK
                    have c106b : s 11 ≠ 28530 := fun z => c106 (k3_eq.2 z)
                    rw [show bto K ps = (-1) by unfold bto; rw [if_neg hn4, if_pos c52, if_pos q58, if_neg (show ¬ K = 21 by omega), if_neg (show ¬ K = 20 by omega)]] at k
                    exact k
                  · skip
                    refine wp_go rfl rfl ?_
                    refine wp_go rfl rfl ?_
                    refine wp_ret rfl rfl ?_
                    have hn4 : ¬ (46 ≤ K ∧ K ≤ 49) := by omega
                    have h21 := mkw_21 hK
                    have h20 := mkw_20 hK
                    have c106b : s 11 = 28530 := k3_eq.1 c106
                    rw [show bto K ps = 22 by unfold bto; rw [if_neg hn4, if_pos c52, if_pos q58, if_neg (show ¬ K = 21 by omega), if_pos (show K = 20 by omega)]] at k
                    exact k
            · skip
              refine wp_go rfl rfl ?_
              refine wp_go rfl rfl ?_
              refine wp_cv rfl rfl rfl H71 rfl rfl rfl ?_
              refine c_compareOf H71 hK ?_
              refine wp_ret rfl rfl ?_
              have hn4 : ¬ (46 ≤ K ∧ K ≤ 49) := by omega
              rw [show bto K ps = cmo K by unfold bto; rw [if_neg hn4, if_pos c52, if_neg (nt q58)]] at k
              exact k
          · skip
            refine wp_go rfl rfl ?_
            refine wp_ret rfl rfl ?_
            have hn4 : ¬ (46 ≤ K ∧ K ≤ 49) := by omega
            rw [show bto K ps = -1 by unfold bto; rw [if_neg hn4, if_neg c52]] at k
            exact k
        · skip
          refine wp_go rfl rfl ?_
          refine wp_ret rfl rfl ?_
          rw [show bto K ps = 6 by unfold bto; rw [if_pos (by omega)]; omega] at k
          exact k
      · skip
        refine wp_go rfl rfl ?_
        refine wp_ret rfl rfl ?_
        rw [show bto K ps = 5 by unfold bto; rw [if_pos (by omega)]; omega] at k
        exact k
    · skip
      refine wp_go rfl rfl ?_
      refine wp_ret rfl rfl ?_
      rw [show bto K ps = 4 by unfold bto; rw [if_pos (by omega)]; omega] at k
      exact k
  · skip
    refine wp_go rfl rfl ?_
    refine wp_ret rfl rfl ?_
    rw [show bto K ps = 3 by unfold bto; rw [if_pos (by omega)]; omega] at k
    exact k
set_option maxRecDepth 100000 in
theorem c_whole {d : Nat} {h : hc_H} {Q : List hc_V → hc_H → Prop} {t0 w : Nat} {s T f : Nat → Int} {ops rest : List Int} (hrest : ∀ z r, rest = z :: r → rkm z < 7) (hall : ∀ z, z ∈ ops → 7 ≤ rkm z) (H71 : h.2.2 71 = mo s) (H74 : h.2.2 74 = ar 2720 T) (H76 : h.2.2 76 = ar 160 f) (e12 : s 12 = (t0 : Int)) (e14 : s 14 = (w : Int)) (e17 : s 17 = ((ops ++ rest).length : Int)) (h18 : -100000 ≤ s 18 - ((ops.length : Nat) : Int) ∧ s 18 ≤ 100000) (hl : (ops ++ rest).length ≤ 160) (hp : PL f (ops ++ rest)) (hb : t0 + 75 + 2 * (w + ops.length) ≤ 2720) (k : ∀ h2 s2 T2, h2.2.2 71 = mo s2 → h2.2.2 74 = ar 2720 T2 → s2 17 = (rest.length : Int) → s2 14 = ((w + ops.length : Nat) : Int) → s2 18 = s 18 - cnt ops → s2 19 = 1 → ME [14, 17, 18, 19] s s2 → SAM T T2 (t0 + 75) w ops.length → CDS T2 (t0 + 75) w ops → Fr [71, 74] h h2 → Q [] h2) : hc_wp (d + 2) mX10_whole 0 [xR 71] [] h Q := by
  refine wp_go rfl rfl ?_
  refine wp_go rfl rfl ?_
  refine e_put (fs' := [xR 72, xR 73, xR 74, xR 75, xI (s 4), xI (s 5), xI (s 6), xI (s 7), xI (s 8), xI (s 9), xI (s 10), xL (s 11), xI (s 12), xI (s 13), xI (s 14), xI (s 15), xR 76, xI (s 17), xI (s 18), xI 1, xI (s 20), xI (s 21), xI (s 22), xR 77, xR 78, xR 79, xR 80, xR 81, xR 82, xR 83, xI (s 30), xR 84, xR 85, xR 86, xR 87, xR 88, xR 89, xR 90]) rfl H71 rfl rfl ?_
  refine wp_go rfl rfl ?_
  refine wp_go rfl rfl ?_
  refine wp_cv rfl rfl rfl rfl rfl rfl rfl ?_
  refine c_settle5 hrest ops w _ (hc_u s 19 1) T rfl H74 H76 e12 e14 e17 h18 hl hp hb hall (fun h2 s2 T2 D1 D2 D3 D4 D5 D6 D7 D8 D9 => ?_)
  refine wp_ret rfl rfl ?_
  exact k h2 s2 T2 D1 D2 D3 D4 D5 ((D6 19 rfl).trans rfl) (((ME.rf.u rfl).tr (D6.mono (nin_sub rfl)) (fun _ z => z))) D7 D8 ((Fr.rf.wr rfl).tr D9 (fun _ z => z))
set_option maxRecDepth 100000 in
theorem c_opensBy {d : Nat} {h : hc_H} {Q : List hc_V → hc_H → Prop} {n i m : Nat} {x q : Int} {B s f : Nat → Int} (H : BY B) (hn : n ≤ 300) (H71 : h.2.2 71 = mo s) (H75 : h.2.2 75 = ar 300 B) (H76 : h.2.2 76 = ar 160 f) (e4 : s 4 = (n : Int)) (e7 : s 7 = ((tat B n i : Nat) : Int)) (e17 : s 17 = (m : Int)) (e18 : s 18 = q) (hq : 0 ≤ q ∧ q ≤ 8) (hm : m < 160) (kn : q = 8 → Q [xI 3] h) (ky : ¬ q = 8 → ∀ h2 s2, h2.2.2 71 = mo s2 → TA B n s2 i → s2 17 = ((m + 1 : Nat) : Int) → s2 18 = q + 1 → ME [7, 8, 9, 10, 11, 17, 18] s s2 → h2.2.2 76 = ar 160 (hc_u f m x) → Fr [71, 76] h h2 → Q [xI 0] h2) : hc_wp (d + 3) mX10_opensBy 0 [xR 71, xI x] [] h Q := by
  have H71p : h.2.2 71 = .inr (10, [xR 72, xR 73, xR 74, xR 75, xI (s 4), xI (s 5), xI (s 6), xI (s 7), xI (s 8), xI (s 9), xI (s 10), xL (s 11), xI (s 12), xI (s 13), xI (s 14), xI (s 15), xR 76, xI (s 17), xI q, xI (s 19), xI (s 20), xI (s 21), xI (s 22), xR 77, xR 78, xR 79, xR 80, xR 81, xR 82, xR 83, xI (s 30), xR 84, xR 85, xR 86, xR 87, xR 88, xR 89, xR 90]) := by rw [← e18]; exact H71
  refine wp_go rfl rfl ?_
  refine e_get rfl H71p rfl rfl ?_
  refine wp_go rfl rfl ?_
  refine e_cne rfl (fun c6 => ?_) (fun c6 => ?_)
  · skip
    refine wp_go rfl rfl ?_
    refine wp_go rfl rfl ?_
    refine e_get rfl H71p rfl rfl ?_
    refine wp_go rfl rfl ?_
    refine e_iadd rfl (by omega) ?_
    refine e_put (fs' := [xR 72, xR 73, xR 74, xR 75, xI (s 4), xI (s 5), xI (s 6), xI (s 7), xI (s 8), xI (s 9), xI (s 10), xL (s 11), xI (s 12), xI (s 13), xI (s 14), xI (s 15), xR 76, xI (s 17), xI (q + 1), xI (s 19), xI (s 20), xI (s 21), xI (s 22), xR 77, xR 78, xR 79, xR 80, xR 81, xR 82, xR 83, xI (s 30), xR 84, xR 85, xR 86, xR 87, xR 88, xR 89, xR 90]) rfl H71p rfl rfl ?_
    refine wp_go rfl rfl ?_
    refine wp_go rfl rfl ?_
    refine wp_cv rfl rfl rfl rfl rfl rfl rfl ?_
    refine c_mpush (s := hc_u s 18 (q + 1)) rfl H76 e17 hm (fun h1 B1 B2 B3 => ?_)
    refine wp_go rfl rfl ?_
    refine wp_cv rfl rfl rfl B1 rfl rfl rfl ?_
    refine c_nextT (i := i) H hn B1 e4 e7 ((B3.2.2 75 rfl).trans H75) (fun h2 s2 C1 C2 C3 C4 => ?_)
    refine wp_go rfl rfl ?_
    refine wp_ret rfl rfl ?_
    exact ky c6 h2 s2 C1 C2 ((C3 17 rfl).trans rfl) ((C3 18 rfl).trans rfl) (((ME.rf.u rfl).u rfl).tr (C3.mono (nin_sub rfl)) (fun _ z => z)) ((C4.2.2 76 rfl).trans B2) ((Fr.tr (l2 := [71, 76]) (Fr.rf.wr rfl) B3 (fun _ z => z)).tr (Fr.mono C4 (nin_sub rfl)) (fun _ z => z))
  · skip
    refine wp_go rfl rfl ?_
    refine wp_ret rfl rfl ?_
    exact kn c6
