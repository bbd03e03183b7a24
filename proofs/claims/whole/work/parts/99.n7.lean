/-! the reference: all lower numbers -/
def LWA (mk lw : Nat → Int) (nf i : Nat) : Prop := ∀ p q, p < i → q < nf → lw (8 * p + q) = ((lwp mk p q : Nat) : Int)
set_option maxRecDepth 100000 in
theorem l_mlow3 {d : Nat} {h0 : hc_H} {Q : List hc_V → hc_H → Prop} {s A : Nat → Int} {cs : cT} {e : dX} (hs : cOK cs) (H : RA A cs e) (k : ∀ h2 lw2, LWA cs.mk lw2 cs.nf cs.nf → h2.2.2 86 = ar 64 lw2 → Fr [86] h0 h2 → Q [] h2) : ∀ (n i : Nat) (l2 : hc_V) (lw : Nat → Int) (h : hc_H), (i ≤ cs.nf ∧ cs.nf < i + n) → LWA cs.mk lw cs.nf i → h.2.2 71 = mo s → h.2.2 72 = ar 456 A → h.2.2 86 = ar 64 lw → Fr [86] h0 h → hc_wp (d + 2) mX10_findLowers 2 [xR 71, xI (i : Int), l2] [] h Q := by
  have hn8 := hs.1
  intro n
  induction n with
  | zero =>
    intro i l2 lw h hj
    exact absurd hj (by omega)
  | succ n ih =>
    intro i l2 lw h hj HL H71 H72 H86 HF
    refine wp_go rfl rfl ?_
    refine wp_go rfl rfl ?_
    refine e_get rfl H71 rfl rfl ?_
    refine wp_go rfl rfl ?_
    refine e_aldE (p := 0) rfl H72 rfl ⟨by omega, by omega⟩ ?_
    rw [show A 0 = (cs.nf : Int) from H.1.1]
    refine e_cge rfl (fun c9 => ?_) (fun c9 => ?_)
    · skip
      refine wp_ret rfl rfl ?_
      rw [show i = cs.nf by omega] at HL
      exact k h lw HL H86 HF
    · skip
      refine wp_go rfl rfl ?_
      refine e_istn (L' := [xR 71, xI (i : Int), xI 0]) rfl rfl rfl ?_
      refine l_mlow2 (d := d) (h0 := h0) hs (by omega) H (fun h2 lw2 j2 L2 A71 A72 A86 F2 => ?_) (cs.nf + 1) 0 lw h (by omega) ⟨HL, fun q hq => absurd hq (by omega)⟩ H71 H72 H86 HF
      refine e_inc (L' := [xR 71, xI ((i : Int) + 1), xI j2]) rfl rfl (by omega) rfl ?_
      refine wp_go rfl rfl ?_
      exact ih (i + 1) _ _ _ (by omega) (fun p q hp hq => by
        by_cases c : p = i
        · rw [c]
          exact L2.2 q hq
        · exact L2.1 p q (by omega) hq) A71 A72 A86 F2
set_option maxRecDepth 100000 in
theorem c_mlowers {d : Nat} {h : hc_H} {Q : List hc_V → hc_H → Prop} {s A lw : Nat → Int} {cs : cT} {e : dX} (hs : cOK cs) (H : RA A cs e) (H71 : h.2.2 71 = mo s) (H72 : h.2.2 72 = ar 456 A) (H86 : h.2.2 86 = ar 64 lw) (k : ∀ h2 lw2, LWA cs.mk lw2 cs.nf cs.nf → h2.2.2 86 = ar 64 lw2 → Fr [86] h h2 → Q [] h2) : hc_wp (d + 2) mX10_findLowers 0 [xR 71, none, none] [] h Q := by
  refine wp_go rfl rfl ?_
  refine e_istn (L' := [xR 71, xI 0, none]) rfl rfl rfl ?_
  exact l_mlow3 hs H k (cs.nf + 1) 0 _ lw h (by omega) (fun p q hp => absurd hp (by omega)) H71 H72 H86 Fr.rf
