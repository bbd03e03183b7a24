/-! the reference: shares; what stands -/
def mwv (s : cT) (w : Int) : Nat := if w = -1 then Int.toNat (720720 - smk s.mk s.nf) else Int.toNat (s.mk (Int.toNat w))
theorem smk_nf {s : cT} (hs : cOK s) : 0 ≤ smk s.mk s.nf ∧ smk s.mk s.nf ≤ 720720 := by
  obtain ⟨h1, ⟨a, b, c⟩, _⟩ := hs
  have key : ∀ n : Nat, n ≤ 8 → 0 ≤ smk s.mk n ∧ smk s.mk n ≤ smk s.mk 8 := by
    have mono : ∀ k n : Nat, n + k = 8 → smk s.mk n ≤ smk s.mk 8 := by
      intro k
      induction k with
      | zero =>
        intro n hn
        rw [show n = 8 by omega]
        exact Int.le_refl _
      | succ k ih =>
        intro n hn
        have h2 := ih (n + 1) (by omega)
        have h3 := a n (by omega)
        rw [smk] at h2
        omega
    intro n hn
    refine ⟨?_, mono (8 - n) n (by omega)⟩
    induction n with
    | zero => exact Int.le_refl _
    | succ n ih =>
      have h2 := ih (by omega)
      have h3 := a n (by omega)
      rw [smk]
      omega
  have := key s.nf h1
  omega
theorem mwv_le {s : cT} {w : Int} (hs : cOK s) (hw : w = -1 ∨ (0 ≤ w ∧ w < (s.nf : Int))) : mwv s w ≤ 720720 := by
  have h1 := smk_nf hs
  have hn := hs.1
  unfold mwv
  by_cases c : w = -1
  · rw [if_pos c]
    omega
  · rw [if_neg c]
    have := hs.2.1.1 (Int.toNat w) (by omega)
    omega
set_option maxRecDepth 100000 in
theorem l_mshare {d : Nat} {h : hc_H} {Q : List hc_V → hc_H → Prop} {m : Nat} {v t : Int} (hm : m ≤ 720720) (ht : 0 ≤ t ∧ t ≤ 1) (k0 : t = 0 → Q [xI ((m / Nat.gcd m 720720 : Nat) : Int)] h) (k1 : t = 1 → Q [xI ((lwn m : Nat) : Int)] h) : hc_wp (d + 3) mX10_share 30 [xR 71, xI v, xI t, none] [xI (m : Int)] h Q := by
  refine e_istn (L' := [xR 71, xI v, xI t, xI (m : Int)]) rfl rfl rfl ?_
  refine wp_go rfl rfl ?_
  refine e_ifne rfl (fun c32 => ?_) (fun c32 => ?_)
  · skip
    refine wp_go rfl rfl ?_
    refine wp_call rfl rfl rfl rfl ?_
    refine c_mlower (m := m) hm ?_
    refine wp_ret rfl rfl ?_
    exact k1 (by omega)
  · skip
    refine wp_go rfl rfl ?_
    refine wp_go rfl rfl ?_
    refine e_ldc 720720 rfl rfl ?_
    refine wp_call rfl rfl rfl rfl ?_
    refine c_mcommon (m := m) hm ?_
    have hgp : 0 < Nat.gcd m 720720 := Nat.gcd_pos_of_pos_right _ (by decide)
    have hgl : Nat.gcd m 720720 ≤ 720720 := Nat.gcd_le_right _ (by decide)
    refine e_idiv rfl (by omega) (by rw [show Int.tdiv (m : Int) ((Nat.gcd m 720720 : Nat) : Int) = ((m / Nat.gcd m 720720 : Nat) : Int) from rfl]; have z9 := Nat.div_le_self m (Nat.gcd m 720720); obtain ⟨z, hz⟩ : ∃ z, z = m / Nat.gcd m 720720 := ⟨_, rfl⟩; rw [← hz] at z9 ⊢; omega) ?_
    refine wp_go rfl rfl ?_
    refine wp_ret rfl rfl ?_
    rw [show Int.tdiv (m : Int) ((Nat.gcd m 720720 : Nat) : Int) = ((m / Nat.gcd m 720720 : Nat) : Int) from rfl]
    exact k0 (by omega)
set_option maxRecDepth 100000 in
theorem c_mshare {d : Nat} {h : hc_H} {Q : List hc_V → hc_H → Prop} {v t : Int} {s A : Nat → Int} {cs : cT} {e : dX} (hs : cOK cs) (H71 : h.2.2 71 = mo s) (H72 : h.2.2 72 = ar 456 A) (H : RA A cs e) (kx : (¬ (v = -1 ∨ (0 ≤ v ∧ v < (cs.nf : Int))) ∨ t < 0 ∨ 1 < t) → Q [xI (-2)] h) (k0 : (v = -1 ∨ (0 ≤ v ∧ v < (cs.nf : Int))) → t = 0 → Q [xI ((mwv cs v / Nat.gcd (mwv cs v) 720720 : Nat) : Int)] h) (k1 : (v = -1 ∨ (0 ≤ v ∧ v < (cs.nf : Int))) → t = 1 → Q [xI ((lwn (mwv cs v) : Nat) : Int)] h) : hc_wp (d + 3) mX10_share 0 [xR 71, xI v, xI t, none] [] h Q := by
  have hn8 := hs.1
  refine wp_go rfl rfl ?_
  refine wp_go rfl rfl ?_
  refine e_ceq rfl (fun c2 => ?_) (fun c2 => ?_)
  · skip
    refine wp_go rfl rfl ?_
    refine wp_go rfl rfl ?_
    refine wp_go rfl rfl ?_
    refine wp_call rfl rfl rfl rfl ?_
    refine c_isIn  (fun q16 => ?_) (fun q16 => ?_)
    · skip
      refine wp_go rfl rfl ?_
      refine wp_go rfl rfl ?_
      refine wp_go rfl rfl ?_
      refine wp_cv rfl rfl rfl H71 rfl rfl rfl ?_
      have hvv : v = -1 ∨ (0 ≤ v ∧ v < (cs.nf : Int)) := by omega
      have hm := mwv_le hs hvv
      have hbx := smk_nf hs
      have hva : mwv cs v = mwv cs v := rfl
      refine c_mmarks (d := d) (v := v) hs H71 H72 H (fun z => ?_) (fun p hp hp2 => ?_) (fun z1 z2 => absurd hvv (by omega))
      · rw [show (720720 - smk cs.mk cs.nf : Int) = ((mwv cs v : Nat) : Int) by unfold mwv; rw [if_pos z]; omega]
        exact l_mshare hm q16 (k0 hvv) (k1 hvv)
      · have hq := hs.2.1.1 p (by omega)
        rw [show cs.mk p = ((mwv cs v : Nat) : Int) by unfold mwv; rw [if_neg (by omega), hp, Int.toNat_natCast]; omega]
        exact l_mshare hm q16 (k0 hvv) (k1 hvv)
    · skip
      refine wp_go rfl rfl ?_
      refine wp_go rfl rfl ?_
      refine wp_ret rfl rfl ?_
      exact kx (by omega)
  · skip
    refine wp_go rfl rfl ?_
    refine wp_go rfl rfl ?_
    refine wp_cv rfl rfl rfl H71 rfl rfl rfl ?_
    refine c_misF H71 H72 H.1.1 hs.1  (fun q7 => ?_) (fun q7 => ?_)
    · skip
      refine wp_go rfl rfl ?_
      refine wp_go rfl rfl ?_
      refine wp_go rfl rfl ?_
      refine wp_go rfl rfl ?_
      refine wp_call rfl rfl rfl rfl ?_
      refine c_isIn  (fun q16 => ?_) (fun q16 => ?_)
      · skip
        refine wp_go rfl rfl ?_
        refine wp_go rfl rfl ?_
        refine wp_go rfl rfl ?_
        refine wp_cv rfl rfl rfl H71 rfl rfl rfl ?_
        have hvv : v = -1 ∨ (0 ≤ v ∧ v < (cs.nf : Int)) := by omega
        have hm := mwv_le hs hvv
        have hbx := smk_nf hs
        have hva : mwv cs v = mwv cs v := rfl
        refine c_mmarks (d := d) (v := v) hs H71 H72 H (fun z => ?_) (fun p hp hp2 => ?_) (fun z1 z2 => absurd hvv (by omega))
        · rw [show (720720 - smk cs.mk cs.nf : Int) = ((mwv cs v : Nat) : Int) by unfold mwv; rw [if_pos z]; omega]
          exact l_mshare hm q16 (k0 hvv) (k1 hvv)
        · have hq := hs.2.1.1 p (by omega)
          rw [show cs.mk p = ((mwv cs v : Nat) : Int) by unfold mwv; rw [if_neg (by omega), hp, Int.toNat_natCast]; omega]
          exact l_mshare hm q16 (k0 hvv) (k1 hvv)
      · skip
        refine wp_go rfl rfl ?_
        refine wp_go rfl rfl ?_
        refine wp_ret rfl rfl ?_
        exact kx (by omega)
    · skip
      refine wp_go rfl rfl ?_
      refine wp_go rfl rfl ?_
      refine wp_ret rfl rfl ?_
      exact kx (by omega)
