/-! the class: Reader, sixth part: laws -/
set_option maxRecDepth 100000 in
theorem c_law {B : Nat → Int} {n : Nat} (H : BY B) (hn : n ≤ 300) {v : ef} {i : Nat} {r : cnR} (hk : tK B n i = 10 ∨ tK B n i = 11) (hsp : sP (tK B n) (tN B n) (tK B n i) 4000 2 0 v (i + 1) = some r) {d : Nat} {h : hc_H} {Q : List hc_V → hc_H → Prop} {wd : Nat → Int} {wc0 cl co lw0 : Int} {tl rb : hc_V} (h91 : 91 ≤ h.1) (HT : TOKH h B n) (H55 : h.2.2 55 = rdo wc0 cl co tl rb lw0 (i : Int) (tK B n i) 0 (-1)) (H56 : h.2.2 56 = ar 300 wd) (kok : ∀ (j : Nat) (V : ef), r = .inr (j, V) → ∀ (h2 : hc_H) (q m : Nat) (wq wx : Nat → Int), q = h.1 → q < h2.1 → h2.2.2 q = ar m wq → m ≤ 300 → (∀ nm : Nat → Int, bnd nm → ∃ z, z ≤ 64 ∧ WE m wq nm 0 m (V (nm 23) (nm 24) (nm 25) (nm (i4 (tK B n i))) (nm (i5 (tK B n i)))) z) → i + 1 ≤ j ∧ j ≤ 300 → (tK B n i = 10 → h2.2.2 55 = rdo (m : Int) cl co (xR q) rb (tK B n i) (j : Int) (tK B n j) 0 (-1)) → (tK B n i = 11 → h2.2.2 55 = rdo (m : Int) cl co tl (xR q) (tK B n i) (j : Int) (tK B n j) 0 (-1)) → h2.2.2 56 = ar 300 wx → FA 1 300 [55, 56] h h2 → Q [] h2) (kf : ∀ (fl : Int) (k : Nat), r = .inl (fl, k) → ∀ (h2 : hc_H) (wc : Nat) (wx : Nat → Int) (tl2 rb2 : hc_V), wc ≤ 300 → fl ≠ 0 → h2.2.2 55 = rdo (wc : Int) cl co tl2 rb2 (tK B n i) (k : Int) 2 fl ((tP B n k : Nat) : Int) → h2.2.2 56 = ar 300 wx → FA 1 300 [55, 56] h h2 → Q [] h2) : hc_wp (d + 90) mX3_readLaw 0 [xR 55, none] [] h Q := by
  have x0 : mx 0 = 0 := rfl
  have x1 : mx 1 = 1 := rfl
  have x2 : mx 2 = 2 := rfl
  have x3 : mx 3 = 1 := rfl
  have x4 : mx 4 = 2 := rfl
  have x5 : mx 5 = 5 := rfl
  have x6 : mx 6 = 4 := rfl
  have x7 : mx 7 = 3 := rfl
  have x8 : mx 8 = 5 := rfl
  have x9 : mx 9 = 4 := rfl
  have hlt := tK_lt H hn (show tK B n i ≠ 0 by omega)
  refine wp_go rfl rfl ?_
  refine wp_go rfl rfl ?_
  refine e_get rfl H55 rfl rfl ?_
  refine e_put (fs' := [xR 56, xI wc0, xR 57, xI cl, xI co, tl, rb, xI (tK B n i), xR 51, xI (i : Int), xI (tK B n i), xI 1, xI 0, xI (-1)]) rfl H55 rfl rfl ?_
  refine wp_go rfl rfl ?_
  refine wp_go rfl rfl ?_
  refine e_put (fs' := [xR 56, xI 0, xR 57, xI cl, xI co, tl, rb, xI (tK B n i), xR 51, xI (i : Int), xI (tK B n i), xI 1, xI 0, xI (-1)]) rfl rfl rfl rfl ?_
  refine wp_go rfl rfl ?_
  refine wp_cv rfl rfl rfl rfl rfl rfl rfl ?_
  refine c_advL H hn HT.w5.w5 (by omega) rfl ?_
  refine wp_go rfl rfl ?_
  refine wp_go rfl rfl ?_
  refine wp_cv rfl rfl rfl rfl rfl rfl rfl ?_
  refine cn_all H hn hk 4000 2 (by decide) 0 v (i + 1) r hsp _ _ _ 0 0 wd cl co tl rb 0 none (by omega) (by omega) HT.w5.w5.w5 rfl H56 (by omega) (fun z => absurd z (by decide)) (fun _ => rfl) (fun j301 V301 e301 h301 wc301 wd301 A301 E301 P301 T301 B301 J301 F301 => ?_) (fun fl301 k301 e301 h301 R301 F301 => ?_)
  · skip
    have hh1 : h301.1 = h.1 := ((((Fr.rf.wr rfl).wr rfl).wr rfl).tr F301 (fun _ z => z)).1
    refine wp_go rfl rfl ?_
    refine e_get rfl A301 rfl rfl ?_
    refine wp_go rfl rfl ?_
    refine wp_go rfl rfl ?_
    refine e_get rfl A301 rfl rfl ?_
    refine wp_go rfl rfl ?_
    refine e_get rfl A301 rfl rfl ?_
    refine e_alen rfl E301 rfl (by decide) ?_
    refine wp_go rfl rfl ?_
    refine wp_go rfl rfl ?_
    show hc_wp _ mX3_readLaw 42 [xR 55, none] [xI (if (0 : Int) < (if (300 : Int) < (wc301 : Int) then (300 : Int) else (wc301 : Int)) then (if (300 : Int) < (wc301 : Int) then (300 : Int) else (wc301 : Int)) else 0), xR 56] _ Q
    rw [show (if (0 : Int) < (if (300 : Int) < (wc301 : Int) then (300 : Int) else (wc301 : Int)) then (if (300 : Int) < (wc301 : Int) then (300 : Int) else (wc301 : Int)) else 0) = (wc301 : Int) by rw [if_neg (show ¬ (300 : Int) < (wc301 : Int) by omega)]; split <;> omega]
    refine wp_call rfl rfl rfl rfl ?_
    refine c_copyOf (m := wc301) E301 (by omega) (by omega) (by omega) (fun hQ gQ AQ GQ eQ => ?_)
    refine e_astn (L' := [xR 55, xR h301.1]) rfl rfl rfl ?_
    refine wp_go rfl rfl ?_
    refine e_get rfl ((AQ.2.2 55 (by omega)).trans A301) rfl rfl ?_
    refine wp_go rfl rfl ?_
    refine e_cne rfl (fun c52 => ?_) (fun c52 => ?_)
    · skip
      refine wp_go rfl rfl ?_
      refine wp_go rfl rfl ?_
      refine e_put (fs' := [xR 56, xI (wc301 : Int), xR 57, xI cl, xI co, tl, xR h301.1, xI (tK B n i), xR 51, xI (j301 : Int), xI (tK B n (j301)), xI 1, xI 0, xI (-1)]) rfl ((AQ.2.2 55 (by omega)).trans A301) rfl rfl ?_
      refine wp_ret rfl rfl ?_
      refine kok _ _ e301 _ h301.1 wc301 gQ _ hh1 (by show h301.1 < hQ.1; have := AQ.1; omega) ?_ (by omega) ?_ (by omega) (fun z => absurd z c52) (fun _ => rfl) ((AQ.2.2 56 (by omega)).trans E301) (((((((Fr.rf.wr rfl).wr rfl).wr rfl).tr F301 (fun _ z => z)).fa.tr AQ.fa (fun _ z => z) (fun _ z => z)).tr (Fr.fa ((Fr.rf (l := [55, 56])).wr rfl)) (fun _ z => z) (fun _ z => z)).le (by omega) (by omega) (fun _ z => z))
      · exact (hw_ne (by omega) GQ)
      · intro nm hnm
        obtain ⟨m, hm1, hm2⟩ := B301 wc301 gQ nm (by omega) (Nat.le_refl _) (fun t _ ht => eQ t ht) hnm
        exact ⟨m, by omega, hm2⟩
    · skip
      refine wp_go rfl rfl ?_
      refine wp_go rfl rfl ?_
      refine e_put (fs' := [xR 56, xI (wc301 : Int), xR 57, xI cl, xI co, xR h301.1, rb, xI (tK B n i), xR 51, xI (j301 : Int), xI (tK B n (j301)), xI 1, xI 0, xI (-1)]) rfl ((AQ.2.2 55 (by omega)).trans A301) rfl rfl ?_
      refine wp_go rfl rfl ?_
      refine wp_ret rfl rfl ?_
      refine kok _ _ e301 _ h301.1 wc301 gQ _ hh1 (by show h301.1 < hQ.1; have := AQ.1; omega) ?_ (by omega) ?_ (by omega) (fun _ => rfl) (fun z => absurd (c52.symm.trans z) (by decide)) ((AQ.2.2 56 (by omega)).trans E301) (((((((Fr.rf.wr rfl).wr rfl).wr rfl).tr F301 (fun _ z => z)).fa.tr AQ.fa (fun _ z => z) (fun _ z => z)).tr (Fr.fa ((Fr.rf (l := [55, 56])).wr rfl)) (fun _ z => z) (fun _ z => z)).le (by omega) (by omega) (fun _ z => z))
      · exact (hw_ne (by omega) GQ)
      · intro nm hnm
        obtain ⟨m, hm1, hm2⟩ := B301 wc301 gQ nm (by omega) (Nat.le_refl _) (fun t _ ht => eQ t ht) hnm
        exact ⟨m, by omega, hm2⟩
  · skip
    obtain ⟨wy301, wx301, hw301, G301, E301, hf301⟩ := id R301
    have hh1 : h301.1 = h.1 := ((((Fr.rf.wr rfl).wr rfl).wr rfl).tr F301 (fun _ z => z)).1
    refine wp_go rfl rfl ?_
    refine e_get rfl G301 rfl rfl ?_
    refine wp_go rfl rfl ?_
    refine wp_go rfl rfl ?_
    refine e_get rfl G301 rfl rfl ?_
    refine wp_go rfl rfl ?_
    refine e_get rfl G301 rfl rfl ?_
    refine e_alen rfl E301 rfl (by decide) ?_
    refine wp_go rfl rfl ?_
    refine wp_go rfl rfl ?_
    show hc_wp _ mX3_readLaw 42 [xR 55, none] [xI (if (0 : Int) < (if (300 : Int) < (wy301 : Int) then (300 : Int) else (wy301 : Int)) then (if (300 : Int) < (wy301 : Int) then (300 : Int) else (wy301 : Int)) else 0), xR 56] _ Q
    rw [show (if (0 : Int) < (if (300 : Int) < (wy301 : Int) then (300 : Int) else (wy301 : Int)) then (if (300 : Int) < (wy301 : Int) then (300 : Int) else (wy301 : Int)) else 0) = (wy301 : Int) by rw [if_neg (show ¬ (300 : Int) < (wy301 : Int) by omega)]; split <;> omega]
    refine wp_call rfl rfl rfl rfl ?_
    refine c_copyOf (m := wy301) E301 (by omega) (by omega) (by omega) (fun hQ gQ AQ GQ eQ => ?_)
    refine e_astn (L' := [xR 55, xR h301.1]) rfl rfl rfl ?_
    refine wp_go rfl rfl ?_
    refine e_get rfl ((AQ.2.2 55 (by omega)).trans G301) rfl rfl ?_
    refine wp_go rfl rfl ?_
    refine e_cne rfl (fun c52 => ?_) (fun c52 => ?_)
    · skip
      refine wp_go rfl rfl ?_
      refine wp_go rfl rfl ?_
      refine e_put (fs' := [xR 56, xI (wy301 : Int), xR 57, xI cl, xI co, tl, xR h301.1, xI (tK B n i), xR 51, xI (k301 : Int), xI 2, xI 1, xI fl301, xI ((tP B n k301 : Nat) : Int)]) rfl ((AQ.2.2 55 (by omega)).trans G301) rfl rfl ?_
      refine wp_ret rfl rfl ?_
      exact kf _ _ e301 _ wy301 _ _ _ (by omega) hf301 rfl ((AQ.2.2 56 (by omega)).trans E301) (((((((Fr.rf.wr rfl).wr rfl).wr rfl).tr F301 (fun _ z => z)).fa.tr AQ.fa (fun _ z => z) (fun _ z => z)).tr (Fr.fa ((Fr.rf (l := [55, 56])).wr rfl)) (fun _ z => z) (fun _ z => z)).le (by omega) (by omega) (fun _ z => z))
    · skip
      refine wp_go rfl rfl ?_
      refine wp_go rfl rfl ?_
      refine e_put (fs' := [xR 56, xI (wy301 : Int), xR 57, xI cl, xI co, xR h301.1, rb, xI (tK B n i), xR 51, xI (k301 : Int), xI 2, xI 1, xI fl301, xI ((tP B n k301 : Nat) : Int)]) rfl ((AQ.2.2 55 (by omega)).trans G301) rfl rfl ?_
      refine wp_go rfl rfl ?_
      refine wp_ret rfl rfl ?_
      exact kf _ _ e301 _ wy301 _ _ _ (by omega) hf301 rfl ((AQ.2.2 56 (by omega)).trans E301) (((((((Fr.rf.wr rfl).wr rfl).wr rfl).tr F301 (fun _ z => z)).fa.tr AQ.fa (fun _ z => z) (fun _ z => z)).tr (Fr.fa ((Fr.rf (l := [55, 56])).wr rfl)) (fun _ z => z) (fun _ z => z)).le (by omega) (by omega) (fun _ z => z))
set_option maxRecDepth 100000 in
theorem c_put {d : Nat} {h : hc_H} {Q : List hc_V → hc_H → Prop} {a kd fo pl lw wc nb : Int} {cl co : Nat} {tl rb : hc_V} {rw_ : Nat → Int} (H55 : h.2.2 55 = rdo wc (cl : Int) (co : Int) tl rb lw a kd fo pl) (H57 : h.2.2 57 = ar 120 rw_) (hb : cl ≤ 100 ∧ co ≤ 5) (ky : 5 * cl + co < 120 → co < 5 → Q [] (hc_wr (hc_wr h 57 (ar 120 (hc_u rw_ (5 * cl + co) nb))) 55 (rdo wc (cl : Int) ((co + 1 : Nat) : Int) tl rb lw a kd fo pl))) (kn : ¬ (5 * cl + co < 120 ∧ co < 5) → Q [] h) : hc_wp d mX3_put 0 [xR 55, xI nb, none] [] h Q := by
  refine wp_go rfl rfl ?_
  refine e_get rfl H55 rfl rfl ?_
  refine wp_go rfl rfl ?_
  refine e_imul rfl (by omega) ?_
  refine wp_go rfl rfl ?_
  refine e_get rfl H55 rfl rfl ?_
  refine e_iadd rfl (by omega) ?_
  refine e_istn (L' := [xR 55, xI nb, xI (((cl : Int) * 5) + (co : Int))]) rfl rfl rfl ?_
  refine wp_go rfl rfl ?_
  refine e_iflt rfl (fun c13 => absurd c13 (by omega)) (fun c13 => ?_)
  refine wp_go rfl rfl ?_
  refine wp_go rfl rfl ?_
  refine e_get rfl H55 rfl rfl ?_
  refine e_alen rfl H57 rfl (by decide) ?_
  refine e_cge rfl (fun c22 => ?_) (fun c22 => ?_)
  · skip
    refine wp_ret rfl rfl ?_
    exact kn (by omega)
  · skip
    refine wp_go rfl rfl ?_
    refine e_get rfl H55 rfl rfl ?_
    refine wp_go rfl rfl ?_
    refine e_cge rfl (fun c30 => ?_) (fun c30 => ?_)
    · skip
      refine wp_ret rfl rfl ?_
      exact kn (by omega)
    · skip
      refine wp_go rfl rfl ?_
      refine e_get rfl H55 rfl rfl ?_
      refine wp_go rfl rfl ?_
      refine wp_go rfl rfl ?_
      refine e_iastE (p := 5 * cl + co) rfl H57 ⟨by omega, by omega⟩ ?_
      refine wp_go rfl rfl ?_
      refine wp_go rfl rfl ?_
      refine e_get rfl H55 rfl rfl ?_
      refine wp_go rfl rfl ?_
      refine e_iadd rfl (by omega) ?_
      refine e_put (fs' := [xR 56, xI wc, xR 57, xI (cl : Int), xI ((co : Int) + 1), tl, rb, xI lw, xR 51, xI a, xI kd, xI 1, xI fo, xI pl]) rfl H55 rfl rfl ?_
      refine wp_ret rfl rfl ?_
      exact ky (by omega) (by omega)
/-- behind a fault, in a deed -/
def RD (h : hc_H) (cl : Nat) (wc : Int) (tl rb : hc_V) (lw fl pl : Int) (k : Nat) : Prop := ∃ (co : Nat) (rw_ : Nat → Int), co ≤ 5 ∧ h.2.2 55 = rdo wc (cl : Int) (co : Int) tl rb lw (k : Int) 2 fl pl ∧ h.2.2 57 = ar 120 rw_ ∧ fl ≠ 0
theorem c_putS {d : Nat} {h : hc_H} {Q : List hc_V → hc_H → Prop} {cl k : Nat} {wc lw fl pl nb : Int} {tl rb : hc_V} (hc : cl ≤ 100) (R : RD h cl wc tl rb lw fl pl k) (kk : ∀ h2, RD h2 cl wc tl rb lw fl pl k → Fr [55, 57] h h2 → Q [] h2) : hc_wp d mX3_put 0 [xR 55, xI nb, none] [] h Q := by
  obtain ⟨co, rw_, hw, H55, H57, hf⟩ := id R
  refine c_put H55 H57 ⟨hc, hw⟩ (fun _ z => ?_) (fun z => kk h R Fr.rf)
  exact kk _ ⟨co + 1, _, by omega, rfl, rfl, hf⟩ ((Fr.rf.wr rfl).wr rfl)
def cN (K N : Nat → Int) (lo hi : Int) (i : Nat) (k : Option (Int × Nat)) : Option (Int × Nat) := if K i = 3 then (if lo ≤ N i ∧ N i ≤ hi then k else some (2, i)) else some (1, i)
def cX (K : Nat → Int) (due : Int) (i : Nat) (k : Option (Int × Nat)) : Option (Int × Nat) := if K i = due then k else some (1, i)
/-- what is wrong with a deed whose first token is the i-th -/
def sDe (K N : Nat → Int) (i : Nat) : Option (Int × Nat) := if K i = 12 then cN K N 1 99 (i + 1) (cX K 15 (i + 2) (cN K N 1 99 (i + 3) (cX K 16 (i + 4) (cN K N 0 7 (i + 5) (cX K 17 (i + 6) (cN K N 0 7 (i + 7) none)))))) else if K i = 13 then cN K N 1 9999 (i + 1) (cX K 17 (i + 2) (cN K N 0 7 (i + 3) none)) else cN K N 1 99 (i + 1) none
def dln (k : Int) : Nat := if k = 12 then 8 else if k = 13 then 4 else 2
set_option maxRecDepth 100000 in
theorem c_deed {B : Nat → Int} {n : Nat} (H : BY B) (hn : n ≤ 300) {i cl : Nat} {r : Option (Int × Nat)} (hk : 12 ≤ tK B n i ∧ tK B n i ≤ 14) (hsp : sDe (tK B n) (tN B n) i = r) {d : Nat} {h : hc_H} {Q : List hc_V → hc_H → Prop} {rw_ : Nat → Int} {wc lw : Int} {tl rb : hc_V} (hcl : cl < 24) (HT : TOKH h B n) (H55 : h.2.2 55 = rdo wc (cl : Int) ((1 : Nat) : Int) tl rb lw (i : Int) (tK B n i) 0 (-1)) (H57 : h.2.2 57 = ar 120 rw_) (kok : r = none → ∀ (h2 : hc_H) (co : Nat) (rw2 : Nat → Int), h2.2.2 55 = rdo wc (cl : Int) (co : Int) tl rb lw ((i + dln (tK B n i) : Nat) : Int) (tK B n (i + dln (tK B n i))) 0 (-1) → i + dln (tK B n i) ≤ 300 → h2.2.2 57 = ar 120 rw2 → (12 ≤ tK B n i → rw2 (5 * cl + 1) = tN B n (i + 1)) → (tK B n i ≤ 13 → rw2 (5 * cl + 2) = tN B n (i + 3)) → (tK B n i ≤ 12 → rw2 (5 * cl + 3) = tN B n (i + 5)) → (tK B n i ≤ 12 → rw2 (5 * cl + 4) = tN B n (i + 7)) → (∀ t, t < 5 * cl + 1 → rw2 t = rw_ t) → Fr [55, 57] h h2 → Q [] h2) (kf : ∀ (fl : Int) (k : Nat), r = some (fl, k) → ∀ h2 : hc_H, RD h2 cl wc tl rb lw fl ((tP B n k : Nat) : Int) k → Fr [55, 57] h h2 → Q [] h2) : hc_wp (d + 5) mX3_readDeed 0 [xR 55, none] [] h Q := by
  have hlt := tK_lt H hn (show tK B n i ≠ 0 by omega)
  refine wp_go rfl rfl ?_
  refine e_get rfl H55 rfl rfl ?_
  refine e_istn (L' := [xR 55, xI (tK B n (i))]) rfl rfl rfl ?_
  refine wp_go rfl rfl ?_
  refine wp_cv rfl rfl rfl H55 rfl rfl rfl ?_
  refine c_advL H hn HT (by omega) H55 ?_
  refine wp_go rfl rfl ?_
  refine wp_go rfl rfl ?_
  refine e_cne rfl (fun c12 => ?_) (fun c12 => ?_)
  · skip
    have k12 : ¬ tK B n i = 12 := c12
    rw [sDe, if_neg k12] at hsp
    refine wp_go rfl rfl ?_
    refine wp_go rfl rfl ?_
    refine e_cne rfl (fun c83 => ?_) (fun c83 => ?_)
    · skip
      have k13 : ¬ tK B n i = 13 := c83
      rw [if_neg k13] at hsp
      refine wp_go rfl rfl ?_
      refine wp_go rfl rfl ?_
      refine wp_go rfl rfl ?_
      refine wp_go rfl rfl ?_
      refine wp_cv rfl rfl rfl rfl rfl rfl rfl ?_
      refine c_tknL (i := i + 1) H hn HT.w5 (by omega) rfl (fun z123 => ?_) (fun y123 z123 => ?_) (fun y123 z123 => ?_)
      · skip
        rw [cN, if_neg z123] at hsp
        refine wp_cv rfl rfl rfl rfl rfl rfl rfl ?_
        refine c_putS (by omega) (show RD _ cl wc tl rb lw 1 ((tP B n (i + 1) : Nat) : Int) (i + 1) from ⟨1, rw_, by omega, rfl, H57, by decide⟩) (fun h302 R302 F302 => ?_)
        obtain ⟨co302, rq302, hw302, G302, E302, hf302⟩ := id R302
        refine wp_ret rfl rfl ?_
        exact kf _ _ hsp.symm _ R302 (((Fr.rf.wr rfl).wr rfl).tr F302 (fun _ z => z))
      · skip
        rw [cN, if_pos y123, if_neg z123] at hsp
        refine wp_cv rfl rfl rfl rfl rfl rfl rfl ?_
        refine c_putS (by omega) (show RD _ cl wc tl rb lw 2 ((tP B n (i + 1) : Nat) : Int) (i + 1) from ⟨1, rw_, by omega, rfl, H57, by decide⟩) (fun h303 R303 F303 => ?_)
        obtain ⟨co303, rq303, hw303, G303, E303, hf303⟩ := id R303
        refine wp_ret rfl rfl ?_
        exact kf _ _ hsp.symm _ R303 (((Fr.rf.wr rfl).wr rfl).tr F303 (fun _ z => z))
      · skip
        rw [cN, if_pos y123, if_pos z123] at hsp
        have hl123 := tK_lt H hn (show tK B n (i + 1) ≠ 0 by rw [y123]; decide)
        refine wp_cv rfl rfl rfl rfl rfl rfl rfl ?_
        refine c_put (cl := cl) (co := 1) rfl H57 (by omega) (fun _ _ => ?_) (fun z => absurd (show 5 * cl + 1 < 120 ∧ 1 < 5 by omega) z)
        refine wp_ret rfl rfl ?_
        have hd : dln (tK B n i) = 2 := by unfold dln; rw [if_neg k12, if_neg k13]
        exact kok hsp.symm _ 2 (hc_u rw_ (5 * cl + 1) (tN B n (i + 1))) (by rw [hd]; exact rfl) (by rw [hd]; omega) rfl (fun _ => hu_s) (fun z => absurd z (by omega)) (fun z => absurd z (by omega)) (fun z => absurd z (by omega)) (fun t ht => ((hu_n (by omega)).trans rfl)) ((((Fr.rf.wr rfl).wr rfl).wr rfl).wr rfl)
    · skip
      have k13 : tK B n i = 13 := c83
      rw [if_pos k13] at hsp
      refine wp_go rfl rfl ?_
      refine wp_go rfl rfl ?_
      refine wp_go rfl rfl ?_
      refine wp_go rfl rfl ?_
      refine wp_cv rfl rfl rfl rfl rfl rfl rfl ?_
      refine c_tknL (i := i + 1) H hn HT.w5 (by omega) rfl (fun z92 => ?_) (fun y92 z92 => ?_) (fun y92 z92 => ?_)
      · skip
        rw [cN, if_neg z92] at hsp
        refine wp_cv rfl rfl rfl rfl rfl rfl rfl ?_
        refine c_putS (by omega) (show RD _ cl wc tl rb lw 1 ((tP B n (i + 1) : Nat) : Int) (i + 1) from ⟨1, rw_, by omega, rfl, H57, by decide⟩) (fun h304 R304 F304 => ?_)
        obtain ⟨co304, rq304, hw304, G304, E304, hf304⟩ := id R304
        refine wp_go rfl rfl ?_
        refine wp_go rfl rfl ?_
        refine wp_cv rfl rfl rfl G304 rfl rfl rfl ?_
        refine c_expS G304 hf304 (by decide) ?_
        refine wp_go rfl rfl ?_
        refine wp_go rfl rfl ?_
        refine wp_go rfl rfl ?_
        refine wp_go rfl rfl ?_
        refine wp_cv rfl rfl rfl G304 rfl rfl rfl ?_
        refine c_tknS H hn (HT.w5.w5.fr F304 rfl) G304 hf304 ?_
        refine wp_cv rfl rfl rfl G304 rfl rfl rfl ?_
        refine c_putS (by omega) R304 (fun h305 R305 F305 => ?_)
        obtain ⟨co305, rq305, hw305, G305, E305, hf305⟩ := id R305
        refine wp_go rfl rfl ?_
        refine wp_ret rfl rfl ?_
        exact kf _ _ hsp.symm _ R305 ((((Fr.rf.wr rfl).wr rfl).tr F304 (fun _ z => z)).tr F305 (fun _ z => z))
      · skip
        rw [cN, if_pos y92, if_neg z92] at hsp
        refine wp_cv rfl rfl rfl rfl rfl rfl rfl ?_
        refine c_putS (by omega) (show RD _ cl wc tl rb lw 2 ((tP B n (i + 1) : Nat) : Int) (i + 1) from ⟨1, rw_, by omega, rfl, H57, by decide⟩) (fun h306 R306 F306 => ?_)
        obtain ⟨co306, rq306, hw306, G306, E306, hf306⟩ := id R306
        refine wp_go rfl rfl ?_
        refine wp_go rfl rfl ?_
        refine wp_cv rfl rfl rfl G306 rfl rfl rfl ?_
        refine c_expS G306 hf306 (by decide) ?_
        refine wp_go rfl rfl ?_
        refine wp_go rfl rfl ?_
        refine wp_go rfl rfl ?_
        refine wp_go rfl rfl ?_
        refine wp_cv rfl rfl rfl G306 rfl rfl rfl ?_
        refine c_tknS H hn (HT.w5.w5.fr F306 rfl) G306 hf306 ?_
        refine wp_cv rfl rfl rfl G306 rfl rfl rfl ?_
        refine c_putS (by omega) R306 (fun h307 R307 F307 => ?_)
        obtain ⟨co307, rq307, hw307, G307, E307, hf307⟩ := id R307
        refine wp_go rfl rfl ?_
        refine wp_ret rfl rfl ?_
        exact kf _ _ hsp.symm _ R307 ((((Fr.rf.wr rfl).wr rfl).tr F306 (fun _ z => z)).tr F307 (fun _ z => z))
      · skip
        rw [cN, if_pos y92, if_pos z92] at hsp
        have hl92 := tK_lt H hn (show tK B n (i + 1) ≠ 0 by rw [y92]; decide)
        refine wp_cv rfl rfl rfl rfl rfl rfl rfl ?_
        refine c_put (cl := cl) (co := 1) rfl H57 (by omega) (fun _ _ => ?_) (fun z => absurd (show 5 * cl + 1 < 120 ∧ 1 < 5 by omega) z)
        refine wp_go rfl rfl ?_
        refine wp_go rfl rfl ?_
        refine wp_cv rfl rfl rfl rfl rfl rfl rfl ?_
        refine c_expL (i := i + 2) H hn (HT.w5.w5.fr (((Fr.rf (l := [55, 57])).wr rfl).wr rfl) rfl) (by omega) rfl (fun z101 => ?_) (fun z101 => ?_)
        · skip
          rw [cX, if_pos z101] at hsp
          have hl101 := tK_lt H hn (show tK B n (i + 2) ≠ 0 by rw [z101]; decide)
          refine wp_go rfl rfl ?_
          refine wp_go rfl rfl ?_
          refine wp_go rfl rfl ?_
          refine wp_go rfl rfl ?_
          refine wp_cv rfl rfl rfl rfl rfl rfl rfl ?_
          refine c_tknL (i := i + 3) H hn (HT.w5.w5.fr (((Fr.rf (l := [55, 57])).wr rfl).wr rfl) rfl).w5 (by omega) rfl (fun z109 => ?_) (fun y109 z109 => ?_) (fun y109 z109 => ?_)
          · skip
            rw [cN, if_neg z109] at hsp
            refine wp_cv rfl rfl rfl rfl rfl rfl rfl ?_
            refine c_putS (by omega) (show RD _ cl wc tl rb lw 1 ((tP B n (i + 3) : Nat) : Int) (i + 3) from ⟨2, (hc_u rw_ (5 * cl + 1) (tN B n (i + 1))), by omega, rfl, rfl, by decide⟩) (fun h308 R308 F308 => ?_)
            obtain ⟨co308, rq308, hw308, G308, E308, hf308⟩ := id R308
            refine wp_go rfl rfl ?_
            refine wp_ret rfl rfl ?_
            exact kf _ _ hsp.symm _ R308 (((((((Fr.rf.wr rfl).wr rfl).wr rfl).wr rfl).wr rfl).wr rfl).tr F308 (fun _ z => z))
          · skip
            rw [cN, if_pos y109, if_neg z109] at hsp
            refine wp_cv rfl rfl rfl rfl rfl rfl rfl ?_
            refine c_putS (by omega) (show RD _ cl wc tl rb lw 2 ((tP B n (i + 3) : Nat) : Int) (i + 3) from ⟨2, (hc_u rw_ (5 * cl + 1) (tN B n (i + 1))), by omega, rfl, rfl, by decide⟩) (fun h309 R309 F309 => ?_)
            obtain ⟨co309, rq309, hw309, G309, E309, hf309⟩ := id R309
            refine wp_go rfl rfl ?_
            refine wp_ret rfl rfl ?_
            exact kf _ _ hsp.symm _ R309 (((((((Fr.rf.wr rfl).wr rfl).wr rfl).wr rfl).wr rfl).wr rfl).tr F309 (fun _ z => z))
          · skip
            rw [cN, if_pos y109, if_pos z109] at hsp
            have hl109 := tK_lt H hn (show tK B n (i + 3) ≠ 0 by rw [y109]; decide)
            refine wp_cv rfl rfl rfl rfl rfl rfl rfl ?_
            refine c_put (cl := cl) (co := 2) rfl rfl (by omega) (fun _ _ => ?_) (fun z => absurd (show 5 * cl + 2 < 120 ∧ 2 < 5 by omega) z)
            refine wp_go rfl rfl ?_
            refine wp_ret rfl rfl ?_
            have hd : dln (tK B n i) = 4 := by unfold dln; rw [if_neg k12, if_pos k13]
            exact kok hsp.symm _ 3 (hc_u (hc_u rw_ (5 * cl + 1) (tN B n (i + 1))) (5 * cl + 2) (tN B n (i + 3))) (by rw [hd]; exact rfl) (by rw [hd]; omega) rfl (fun _ => ((hu_n (by omega)).trans hu_s)) (fun _ => hu_s) (fun z => absurd z (by omega)) (fun z => absurd z (by omega)) (fun t ht => ((hu_n (by omega)).trans ((hu_n (by omega)).trans rfl))) ((((((((Fr.rf.wr rfl).wr rfl).wr rfl).wr rfl).wr rfl).wr rfl).wr rfl).wr rfl)
        · skip
          rw [cX, if_neg z101] at hsp
          refine wp_go rfl rfl ?_
          refine wp_go rfl rfl ?_
          refine wp_go rfl rfl ?_
          refine wp_go rfl rfl ?_
          refine wp_cv rfl rfl rfl rfl rfl rfl rfl ?_
          refine c_tknS H hn (HT.w5.w5.fr (((Fr.rf (l := [55, 57])).wr rfl).wr rfl) rfl).w5 rfl (by decide) ?_
          refine wp_cv rfl rfl rfl rfl rfl rfl rfl ?_
          refine c_putS (by omega) (show RD _ cl wc tl rb lw 1 ((tP B n (i + 2) : Nat) : Int) (i + 2) from ⟨2, (hc_u rw_ (5 * cl + 1) (tN B n (i + 1))), by omega, rfl, rfl, by decide⟩) (fun h310 R310 F310 => ?_)
          obtain ⟨co310, rq310, hw310, G310, E310, hf310⟩ := id R310
          refine wp_go rfl rfl ?_
          refine wp_ret rfl rfl ?_
          exact kf _ _ hsp.symm _ R310 ((((((Fr.rf.wr rfl).wr rfl).wr rfl).wr rfl).wr rfl).tr F310 (fun _ z => z))
  · skip
    have k12 : tK B n i = 12 := c12
    rw [sDe, if_pos k12] at hsp
    refine wp_go rfl rfl ?_
    refine wp_go rfl rfl ?_
    refine wp_go rfl rfl ?_
    refine wp_go rfl rfl ?_
    refine wp_cv rfl rfl rfl rfl rfl rfl rfl ?_
    refine c_tknL (i := i + 1) H hn HT.w5 (by omega) rfl (fun z20 => ?_) (fun y20 z20 => ?_) (fun y20 z20 => ?_)
    · skip
      rw [cN, if_neg z20] at hsp
      refine wp_cv rfl rfl rfl rfl rfl rfl rfl ?_
      refine c_putS (by omega) (show RD _ cl wc tl rb lw 1 ((tP B n (i + 1) : Nat) : Int) (i + 1) from ⟨1, rw_, by omega, rfl, H57, by decide⟩) (fun h311 R311 F311 => ?_)
      obtain ⟨co311, rq311, hw311, G311, E311, hf311⟩ := id R311
      refine wp_go rfl rfl ?_
      refine wp_go rfl rfl ?_
      refine wp_cv rfl rfl rfl G311 rfl rfl rfl ?_
      refine c_expS G311 hf311 (by decide) ?_
      refine wp_go rfl rfl ?_
      refine wp_go rfl rfl ?_
      refine wp_go rfl rfl ?_
      refine wp_go rfl rfl ?_
      refine wp_cv rfl rfl rfl G311 rfl rfl rfl ?_
      refine c_tknS H hn (HT.w5.w5.fr F311 rfl) G311 hf311 ?_
      refine wp_cv rfl rfl rfl G311 rfl rfl rfl ?_
      refine c_putS (by omega) R311 (fun h312 R312 F312 => ?_)
      obtain ⟨co312, rq312, hw312, G312, E312, hf312⟩ := id R312
      refine wp_go rfl rfl ?_
      refine wp_go rfl rfl ?_
      refine wp_cv rfl rfl rfl G312 rfl rfl rfl ?_
      refine c_expS G312 hf312 (by decide) ?_
      refine wp_go rfl rfl ?_
      refine wp_go rfl rfl ?_
      refine wp_go rfl rfl ?_
      refine wp_go rfl rfl ?_
      refine wp_cv rfl rfl rfl G312 rfl rfl rfl ?_
      refine c_tknS H hn ((HT.w5.w5.fr F311 rfl).fr F312 rfl) G312 hf312 ?_
      refine wp_cv rfl rfl rfl G312 rfl rfl rfl ?_
      refine c_putS (by omega) R312 (fun h313 R313 F313 => ?_)
      obtain ⟨co313, rq313, hw313, G313, E313, hf313⟩ := id R313
      refine wp_go rfl rfl ?_
      refine wp_go rfl rfl ?_
      refine wp_cv rfl rfl rfl G313 rfl rfl rfl ?_
      refine c_expS G313 hf313 (by decide) ?_
      refine wp_go rfl rfl ?_
      refine wp_go rfl rfl ?_
      refine wp_go rfl rfl ?_
      refine wp_go rfl rfl ?_
      refine wp_cv rfl rfl rfl G313 rfl rfl rfl ?_
      refine c_tknS H hn (((HT.w5.w5.fr F311 rfl).fr F312 rfl).fr F313 rfl) G313 hf313 ?_
      refine wp_cv rfl rfl rfl G313 rfl rfl rfl ?_
      refine c_putS (by omega) R313 (fun h314 R314 F314 => ?_)
      obtain ⟨co314, rq314, hw314, G314, E314, hf314⟩ := id R314
      refine wp_go rfl rfl ?_
      refine wp_ret rfl rfl ?_
      exact kf _ _ hsp.symm _ R314 ((((((Fr.rf.wr rfl).wr rfl).tr F311 (fun _ z => z)).tr F312 (fun _ z => z)).tr F313 (fun _ z => z)).tr F314 (fun _ z => z))
    · skip
      rw [cN, if_pos y20, if_neg z20] at hsp
      refine wp_cv rfl rfl rfl rfl rfl rfl rfl ?_
      refine c_putS (by omega) (show RD _ cl wc tl rb lw 2 ((tP B n (i + 1) : Nat) : Int) (i + 1) from ⟨1, rw_, by omega, rfl, H57, by decide⟩) (fun h315 R315 F315 => ?_)
      obtain ⟨co315, rq315, hw315, G315, E315, hf315⟩ := id R315
      refine wp_go rfl rfl ?_
      refine wp_go rfl rfl ?_
      refine wp_cv rfl rfl rfl G315 rfl rfl rfl ?_
      refine c_expS G315 hf315 (by decide) ?_
      refine wp_go rfl rfl ?_
      refine wp_go rfl rfl ?_
      refine wp_go rfl rfl ?_
      refine wp_go rfl rfl ?_
      refine wp_cv rfl rfl rfl G315 rfl rfl rfl ?_
      refine c_tknS H hn (HT.w5.w5.fr F315 rfl) G315 hf315 ?_
      refine wp_cv rfl rfl rfl G315 rfl rfl rfl ?_
      refine c_putS (by omega) R315 (fun h316 R316 F316 => ?_)
      obtain ⟨co316, rq316, hw316, G316, E316, hf316⟩ := id R316
      refine wp_go rfl rfl ?_
      refine wp_go rfl rfl ?_
      refine wp_cv rfl rfl rfl G316 rfl rfl rfl ?_
      refine c_expS G316 hf316 (by decide) ?_
      refine wp_go rfl rfl ?_
      refine wp_go rfl rfl ?_
      refine wp_go rfl rfl ?_
      refine wp_go rfl rfl ?_
      refine wp_cv rfl rfl rfl G316 rfl rfl rfl ?_
      refine c_tknS H hn ((HT.w5.w5.fr F315 rfl).fr F316 rfl) G316 hf316 ?_
      refine wp_cv rfl rfl rfl G316 rfl rfl rfl ?_
      refine c_putS (by omega) R316 (fun h317 R317 F317 => ?_)
      obtain ⟨co317, rq317, hw317, G317, E317, hf317⟩ := id R317
      refine wp_go rfl rfl ?_
      refine wp_go rfl rfl ?_
      refine wp_cv rfl rfl rfl G317 rfl rfl rfl ?_
      refine c_expS G317 hf317 (by decide) ?_
      refine wp_go rfl rfl ?_
      refine wp_go rfl rfl ?_
      refine wp_go rfl rfl ?_
      refine wp_go rfl rfl ?_
      refine wp_cv rfl rfl rfl G317 rfl rfl rfl ?_
      refine c_tknS H hn (((HT.w5.w5.fr F315 rfl).fr F316 rfl).fr F317 rfl) G317 hf317 ?_
      refine wp_cv rfl rfl rfl G317 rfl rfl rfl ?_
      refine c_putS (by omega) R317 (fun h318 R318 F318 => ?_)
      obtain ⟨co318, rq318, hw318, G318, E318, hf318⟩ := id R318
      refine wp_go rfl rfl ?_
      refine wp_ret rfl rfl ?_
      exact kf _ _ hsp.symm _ R318 ((((((Fr.rf.wr rfl).wr rfl).tr F315 (fun _ z => z)).tr F316 (fun _ z => z)).tr F317 (fun _ z => z)).tr F318 (fun _ z => z))
    · skip
      rw [cN, if_pos y20, if_pos z20] at hsp
      have hl20 := tK_lt H hn (show tK B n (i + 1) ≠ 0 by rw [y20]; decide)
      refine wp_cv rfl rfl rfl rfl rfl rfl rfl ?_
      refine c_put (cl := cl) (co := 1) rfl H57 (by omega) (fun _ _ => ?_) (fun z => absurd (show 5 * cl + 1 < 120 ∧ 1 < 5 by omega) z)
      refine wp_go rfl rfl ?_
      refine wp_go rfl rfl ?_
      refine wp_cv rfl rfl rfl rfl rfl rfl rfl ?_
      refine c_expL (i := i + 2) H hn (HT.w5.w5.fr (((Fr.rf (l := [55, 57])).wr rfl).wr rfl) rfl) (by omega) rfl (fun z29 => ?_) (fun z29 => ?_)
      · skip
        rw [cX, if_pos z29] at hsp
        have hl29 := tK_lt H hn (show tK B n (i + 2) ≠ 0 by rw [z29]; decide)
        refine wp_go rfl rfl ?_
        refine wp_go rfl rfl ?_
        refine wp_go rfl rfl ?_
        refine wp_go rfl rfl ?_
        refine wp_cv rfl rfl rfl rfl rfl rfl rfl ?_
        refine c_tknL (i := i + 3) H hn (HT.w5.w5.fr (((Fr.rf (l := [55, 57])).wr rfl).wr rfl) rfl).w5 (by omega) rfl (fun z37 => ?_) (fun y37 z37 => ?_) (fun y37 z37 => ?_)
        · skip
          rw [cN, if_neg z37] at hsp
          refine wp_cv rfl rfl rfl rfl rfl rfl rfl ?_
          refine c_putS (by omega) (show RD _ cl wc tl rb lw 1 ((tP B n (i + 3) : Nat) : Int) (i + 3) from ⟨2, (hc_u rw_ (5 * cl + 1) (tN B n (i + 1))), by omega, rfl, rfl, by decide⟩) (fun h319 R319 F319 => ?_)
          obtain ⟨co319, rq319, hw319, G319, E319, hf319⟩ := id R319
          refine wp_go rfl rfl ?_
          refine wp_go rfl rfl ?_
          refine wp_cv rfl rfl rfl G319 rfl rfl rfl ?_
          refine c_expS G319 hf319 (by decide) ?_
          refine wp_go rfl rfl ?_
          refine wp_go rfl rfl ?_
          refine wp_go rfl rfl ?_
          refine wp_go rfl rfl ?_
          refine wp_cv rfl rfl rfl G319 rfl rfl rfl ?_
          refine c_tknS H hn ((HT.w5.w5.fr (((Fr.rf (l := [55, 57])).wr rfl).wr rfl) rfl).w5.w5.fr F319 rfl) G319 hf319 ?_
          refine wp_cv rfl rfl rfl G319 rfl rfl rfl ?_
          refine c_putS (by omega) R319 (fun h320 R320 F320 => ?_)
          obtain ⟨co320, rq320, hw320, G320, E320, hf320⟩ := id R320
          refine wp_go rfl rfl ?_
          refine wp_go rfl rfl ?_
          refine wp_cv rfl rfl rfl G320 rfl rfl rfl ?_
          refine c_expS G320 hf320 (by decide) ?_
          refine wp_go rfl rfl ?_
          refine wp_go rfl rfl ?_
          refine wp_go rfl rfl ?_
          refine wp_go rfl rfl ?_
          refine wp_cv rfl rfl rfl G320 rfl rfl rfl ?_
          refine c_tknS H hn (((HT.w5.w5.fr (((Fr.rf (l := [55, 57])).wr rfl).wr rfl) rfl).w5.w5.fr F319 rfl).fr F320 rfl) G320 hf320 ?_
          refine wp_cv rfl rfl rfl G320 rfl rfl rfl ?_
          refine c_putS (by omega) R320 (fun h321 R321 F321 => ?_)
          obtain ⟨co321, rq321, hw321, G321, E321, hf321⟩ := id R321
          refine wp_go rfl rfl ?_
          refine wp_ret rfl rfl ?_
          exact kf _ _ hsp.symm _ R321 (((((((((Fr.rf.wr rfl).wr rfl).wr rfl).wr rfl).wr rfl).wr rfl).tr F319 (fun _ z => z)).tr F320 (fun _ z => z)).tr F321 (fun _ z => z))
        · skip
          rw [cN, if_pos y37, if_neg z37] at hsp
          refine wp_cv rfl rfl rfl rfl rfl rfl rfl ?_
          refine c_putS (by omega) (show RD _ cl wc tl rb lw 2 ((tP B n (i + 3) : Nat) : Int) (i + 3) from ⟨2, (hc_u rw_ (5 * cl + 1) (tN B n (i + 1))), by omega, rfl, rfl, by decide⟩) (fun h322 R322 F322 => ?_)
          obtain ⟨co322, rq322, hw322, G322, E322, hf322⟩ := id R322
          refine wp_go rfl rfl ?_
          refine wp_go rfl rfl ?_
          refine wp_cv rfl rfl rfl G322 rfl rfl rfl ?_
          refine c_expS G322 hf322 (by decide) ?_
          refine wp_go rfl rfl ?_
          refine wp_go rfl rfl ?_
          refine wp_go rfl rfl ?_
          refine wp_go rfl rfl ?_
          refine wp_cv rfl rfl rfl G322 rfl rfl rfl ?_
          refine c_tknS H hn ((HT.w5.w5.fr (((Fr.rf (l := [55, 57])).wr rfl).wr rfl) rfl).w5.w5.fr F322 rfl) G322 hf322 ?_
          refine wp_cv rfl rfl rfl G322 rfl rfl rfl ?_
          refine c_putS (by omega) R322 (fun h323 R323 F323 => ?_)
          obtain ⟨co323, rq323, hw323, G323, E323, hf323⟩ := id R323
          refine wp_go rfl rfl ?_
          refine wp_go rfl rfl ?_
          refine wp_cv rfl rfl rfl G323 rfl rfl rfl ?_
          refine c_expS G323 hf323 (by decide) ?_
          refine wp_go rfl rfl ?_
          refine wp_go rfl rfl ?_
          refine wp_go rfl rfl ?_
          refine wp_go rfl rfl ?_
          refine wp_cv rfl rfl rfl G323 rfl rfl rfl ?_
          refine c_tknS H hn (((HT.w5.w5.fr (((Fr.rf (l := [55, 57])).wr rfl).wr rfl) rfl).w5.w5.fr F322 rfl).fr F323 rfl) G323 hf323 ?_
          refine wp_cv rfl rfl rfl G323 rfl rfl rfl ?_
          refine c_putS (by omega) R323 (fun h324 R324 F324 => ?_)
          obtain ⟨co324, rq324, hw324, G324, E324, hf324⟩ := id R324
          refine wp_go rfl rfl ?_
          refine wp_ret rfl rfl ?_
          exact kf _ _ hsp.symm _ R324 (((((((((Fr.rf.wr rfl).wr rfl).wr rfl).wr rfl).wr rfl).wr rfl).tr F322 (fun _ z => z)).tr F323 (fun _ z => z)).tr F324 (fun _ z => z))
        · skip
          rw [cN, if_pos y37, if_pos z37] at hsp
          have hl37 := tK_lt H hn (show tK B n (i + 3) ≠ 0 by rw [y37]; decide)
          refine wp_cv rfl rfl rfl rfl rfl rfl rfl ?_
          refine c_put (cl := cl) (co := 2) rfl rfl (by omega) (fun _ _ => ?_) (fun z => absurd (show 5 * cl + 2 < 120 ∧ 2 < 5 by omega) z)
          refine wp_go rfl rfl ?_
          refine wp_go rfl rfl ?_
          refine wp_cv rfl rfl rfl rfl rfl rfl rfl ?_
          refine c_expL (i := i + 4) H hn ((HT.w5.w5.fr (((Fr.rf (l := [55, 57])).wr rfl).wr rfl) rfl).w5.w5.fr (((Fr.rf (l := [55, 57])).wr rfl).wr rfl) rfl) (by omega) rfl (fun z46 => ?_) (fun z46 => ?_)
          · skip
            rw [cX, if_pos z46] at hsp
            have hl46 := tK_lt H hn (show tK B n (i + 4) ≠ 0 by rw [z46]; decide)
            refine wp_go rfl rfl ?_
            refine wp_go rfl rfl ?_
            refine wp_go rfl rfl ?_
            refine wp_go rfl rfl ?_
            refine wp_cv rfl rfl rfl rfl rfl rfl rfl ?_
            refine c_tknL (i := i + 5) H hn ((HT.w5.w5.fr (((Fr.rf (l := [55, 57])).wr rfl).wr rfl) rfl).w5.w5.fr (((Fr.rf (l := [55, 57])).wr rfl).wr rfl) rfl).w5 (by omega) rfl (fun z54 => ?_) (fun y54 z54 => ?_) (fun y54 z54 => ?_)
            · skip
              rw [cN, if_neg z54] at hsp
              refine wp_cv rfl rfl rfl rfl rfl rfl rfl ?_
              refine c_putS (by omega) (show RD _ cl wc tl rb lw 1 ((tP B n (i + 5) : Nat) : Int) (i + 5) from ⟨3, (hc_u (hc_u rw_ (5 * cl + 1) (tN B n (i + 1))) (5 * cl + 2) (tN B n (i + 3))), by omega, rfl, rfl, by decide⟩) (fun h325 R325 F325 => ?_)
              obtain ⟨co325, rq325, hw325, G325, E325, hf325⟩ := id R325
              refine wp_go rfl rfl ?_
              refine wp_go rfl rfl ?_
              refine wp_cv rfl rfl rfl G325 rfl rfl rfl ?_
              refine c_expS G325 hf325 (by decide) ?_
              refine wp_go rfl rfl ?_
              refine wp_go rfl rfl ?_
              refine wp_go rfl rfl ?_
              refine wp_go rfl rfl ?_
              refine wp_cv rfl rfl rfl G325 rfl rfl rfl ?_
              refine c_tknS H hn (((HT.w5.w5.fr (((Fr.rf (l := [55, 57])).wr rfl).wr rfl) rfl).w5.w5.fr (((Fr.rf (l := [55, 57])).wr rfl).wr rfl) rfl).w5.w5.fr F325 rfl) G325 hf325 ?_
              refine wp_cv rfl rfl rfl G325 rfl rfl rfl ?_
              refine c_putS (by omega) R325 (fun h326 R326 F326 => ?_)
              obtain ⟨co326, rq326, hw326, G326, E326, hf326⟩ := id R326
              refine wp_go rfl rfl ?_
              refine wp_ret rfl rfl ?_
              exact kf _ _ hsp.symm _ R326 ((((((((((((Fr.rf.wr rfl).wr rfl).wr rfl).wr rfl).wr rfl).wr rfl).wr rfl).wr rfl).wr rfl).wr rfl).tr F325 (fun _ z => z)).tr F326 (fun _ z => z))
            · skip
              rw [cN, if_pos y54, if_neg z54] at hsp
              refine wp_cv rfl rfl rfl rfl rfl rfl rfl ?_
              refine c_putS (by omega) (show RD _ cl wc tl rb lw 2 ((tP B n (i + 5) : Nat) : Int) (i + 5) from ⟨3, (hc_u (hc_u rw_ (5 * cl + 1) (tN B n (i + 1))) (5 * cl + 2) (tN B n (i + 3))), by omega, rfl, rfl, by decide⟩) (fun h327 R327 F327 => ?_)
              obtain ⟨co327, rq327, hw327, G327, E327, hf327⟩ := id R327
              refine wp_go rfl rfl ?_
              refine wp_go rfl rfl ?_
              refine wp_cv rfl rfl rfl G327 rfl rfl rfl ?_
              refine c_expS G327 hf327 (by decide) ?_
              refine wp_go rfl rfl ?_
              refine wp_go rfl rfl ?_
              refine wp_go rfl rfl ?_
              refine wp_go rfl rfl ?_
              refine wp_cv rfl rfl rfl G327 rfl rfl rfl ?_
              refine c_tknS H hn (((HT.w5.w5.fr (((Fr.rf (l := [55, 57])).wr rfl).wr rfl) rfl).w5.w5.fr (((Fr.rf (l := [55, 57])).wr rfl).wr rfl) rfl).w5.w5.fr F327 rfl) G327 hf327 ?_
              refine wp_cv rfl rfl rfl G327 rfl rfl rfl ?_
              refine c_putS (by omega) R327 (fun h328 R328 F328 => ?_)
              obtain ⟨co328, rq328, hw328, G328, E328, hf328⟩ := id R328
              refine wp_go rfl rfl ?_
              refine wp_ret rfl rfl ?_
              exact kf _ _ hsp.symm _ R328 ((((((((((((Fr.rf.wr rfl).wr rfl).wr rfl).wr rfl).wr rfl).wr rfl).wr rfl).wr rfl).wr rfl).wr rfl).tr F327 (fun _ z => z)).tr F328 (fun _ z => z))
            · skip
              rw [cN, if_pos y54, if_pos z54] at hsp
              have hl54 := tK_lt H hn (show tK B n (i + 5) ≠ 0 by rw [y54]; decide)
              refine wp_cv rfl rfl rfl rfl rfl rfl rfl ?_
              refine c_put (cl := cl) (co := 3) rfl rfl (by omega) (fun _ _ => ?_) (fun z => absurd (show 5 * cl + 3 < 120 ∧ 3 < 5 by omega) z)
              refine wp_go rfl rfl ?_
              refine wp_go rfl rfl ?_
              refine wp_cv rfl rfl rfl rfl rfl rfl rfl ?_
              refine c_expL (i := i + 6) H hn (((HT.w5.w5.fr (((Fr.rf (l := [55, 57])).wr rfl).wr rfl) rfl).w5.w5.fr (((Fr.rf (l := [55, 57])).wr rfl).wr rfl) rfl).w5.w5.fr (((Fr.rf (l := [55, 57])).wr rfl).wr rfl) rfl) (by omega) rfl (fun z63 => ?_) (fun z63 => ?_)
              · skip
                rw [cX, if_pos z63] at hsp
                have hl63 := tK_lt H hn (show tK B n (i + 6) ≠ 0 by rw [z63]; decide)
                refine wp_go rfl rfl ?_
                refine wp_go rfl rfl ?_
                refine wp_go rfl rfl ?_
                refine wp_go rfl rfl ?_
                refine wp_cv rfl rfl rfl rfl rfl rfl rfl ?_
                refine c_tknL (i := i + 7) H hn (((HT.w5.w5.fr (((Fr.rf (l := [55, 57])).wr rfl).wr rfl) rfl).w5.w5.fr (((Fr.rf (l := [55, 57])).wr rfl).wr rfl) rfl).w5.w5.fr (((Fr.rf (l := [55, 57])).wr rfl).wr rfl) rfl).w5 (by omega) rfl (fun z71 => ?_) (fun y71 z71 => ?_) (fun y71 z71 => ?_)
                · skip
                  rw [cN, if_neg z71] at hsp
                  refine wp_cv rfl rfl rfl rfl rfl rfl rfl ?_
                  refine c_putS (by omega) (show RD _ cl wc tl rb lw 1 ((tP B n (i + 7) : Nat) : Int) (i + 7) from ⟨4, (hc_u (hc_u (hc_u rw_ (5 * cl + 1) (tN B n (i + 1))) (5 * cl + 2) (tN B n (i + 3))) (5 * cl + 3) (tN B n (i + 5))), by omega, rfl, rfl, by decide⟩) (fun h329 R329 F329 => ?_)
                  obtain ⟨co329, rq329, hw329, G329, E329, hf329⟩ := id R329
                  refine wp_go rfl rfl ?_
                  refine wp_ret rfl rfl ?_
                  exact kf _ _ hsp.symm _ R329 (((((((((((((((Fr.rf.wr rfl).wr rfl).wr rfl).wr rfl).wr rfl).wr rfl).wr rfl).wr rfl).wr rfl).wr rfl).wr rfl).wr rfl).wr rfl).wr rfl).tr F329 (fun _ z => z))
                · skip
                  rw [cN, if_pos y71, if_neg z71] at hsp
                  refine wp_cv rfl rfl rfl rfl rfl rfl rfl ?_
                  refine c_putS (by omega) (show RD _ cl wc tl rb lw 2 ((tP B n (i + 7) : Nat) : Int) (i + 7) from ⟨4, (hc_u (hc_u (hc_u rw_ (5 * cl + 1) (tN B n (i + 1))) (5 * cl + 2) (tN B n (i + 3))) (5 * cl + 3) (tN B n (i + 5))), by omega, rfl, rfl, by decide⟩) (fun h330 R330 F330 => ?_)
                  obtain ⟨co330, rq330, hw330, G330, E330, hf330⟩ := id R330
                  refine wp_go rfl rfl ?_
                  refine wp_ret rfl rfl ?_
                  exact kf _ _ hsp.symm _ R330 (((((((((((((((Fr.rf.wr rfl).wr rfl).wr rfl).wr rfl).wr rfl).wr rfl).wr rfl).wr rfl).wr rfl).wr rfl).wr rfl).wr rfl).wr rfl).wr rfl).tr F330 (fun _ z => z))
                · skip
                  rw [cN, if_pos y71, if_pos z71] at hsp
                  have hl71 := tK_lt H hn (show tK B n (i + 7) ≠ 0 by rw [y71]; decide)
                  refine wp_cv rfl rfl rfl rfl rfl rfl rfl ?_
                  refine c_put (cl := cl) (co := 4) rfl rfl (by omega) (fun _ _ => ?_) (fun z => absurd (show 5 * cl + 4 < 120 ∧ 4 < 5 by omega) z)
                  refine wp_go rfl rfl ?_
                  refine wp_ret rfl rfl ?_
                  have hd : dln (tK B n i) = 8 := by unfold dln; rw [if_pos k12]
                  exact kok hsp.symm _ 5 (hc_u (hc_u (hc_u (hc_u rw_ (5 * cl + 1) (tN B n (i + 1))) (5 * cl + 2) (tN B n (i + 3))) (5 * cl + 3) (tN B n (i + 5))) (5 * cl + 4) (tN B n (i + 7))) (by rw [hd]; exact rfl) (by rw [hd]; omega) rfl (fun _ => ((hu_n (by omega)).trans ((hu_n (by omega)).trans ((hu_n (by omega)).trans hu_s)))) (fun _ => ((hu_n (by omega)).trans ((hu_n (by omega)).trans hu_s))) (fun _ => ((hu_n (by omega)).trans hu_s)) (fun _ => hu_s) (fun t ht => ((hu_n (by omega)).trans ((hu_n (by omega)).trans ((hu_n (by omega)).trans ((hu_n (by omega)).trans rfl))))) ((((((((((((((((Fr.rf.wr rfl).wr rfl).wr rfl).wr rfl).wr rfl).wr rfl).wr rfl).wr rfl).wr rfl).wr rfl).wr rfl).wr rfl).wr rfl).wr rfl).wr rfl).wr rfl)
              · skip
                rw [cX, if_neg z63] at hsp
                refine wp_go rfl rfl ?_
                refine wp_go rfl rfl ?_
                refine wp_go rfl rfl ?_
                refine wp_go rfl rfl ?_
                refine wp_cv rfl rfl rfl rfl rfl rfl rfl ?_
                refine c_tknS H hn (((HT.w5.w5.fr (((Fr.rf (l := [55, 57])).wr rfl).wr rfl) rfl).w5.w5.fr (((Fr.rf (l := [55, 57])).wr rfl).wr rfl) rfl).w5.w5.fr (((Fr.rf (l := [55, 57])).wr rfl).wr rfl) rfl).w5 rfl (by decide) ?_
                refine wp_cv rfl rfl rfl rfl rfl rfl rfl ?_
                refine c_putS (by omega) (show RD _ cl wc tl rb lw 1 ((tP B n (i + 6) : Nat) : Int) (i + 6) from ⟨4, (hc_u (hc_u (hc_u rw_ (5 * cl + 1) (tN B n (i + 1))) (5 * cl + 2) (tN B n (i + 3))) (5 * cl + 3) (tN B n (i + 5))), by omega, rfl, rfl, by decide⟩) (fun h331 R331 F331 => ?_)
                obtain ⟨co331, rq331, hw331, G331, E331, hf331⟩ := id R331
                refine wp_go rfl rfl ?_
                refine wp_ret rfl rfl ?_
                exact kf _ _ hsp.symm _ R331 ((((((((((((((Fr.rf.wr rfl).wr rfl).wr rfl).wr rfl).wr rfl).wr rfl).wr rfl).wr rfl).wr rfl).wr rfl).wr rfl).wr rfl).wr rfl).tr F331 (fun _ z => z))
          · skip
            rw [cX, if_neg z46] at hsp
            refine wp_go rfl rfl ?_
            refine wp_go rfl rfl ?_
            refine wp_go rfl rfl ?_
            refine wp_go rfl rfl ?_
            refine wp_cv rfl rfl rfl rfl rfl rfl rfl ?_
            refine c_tknS H hn ((HT.w5.w5.fr (((Fr.rf (l := [55, 57])).wr rfl).wr rfl) rfl).w5.w5.fr (((Fr.rf (l := [55, 57])).wr rfl).wr rfl) rfl).w5 rfl (by decide) ?_
            refine wp_cv rfl rfl rfl rfl rfl rfl rfl ?_
            refine c_putS (by omega) (show RD _ cl wc tl rb lw 1 ((tP B n (i + 4) : Nat) : Int) (i + 4) from ⟨3, (hc_u (hc_u rw_ (5 * cl + 1) (tN B n (i + 1))) (5 * cl + 2) (tN B n (i + 3))), by omega, rfl, rfl, by decide⟩) (fun h332 R332 F332 => ?_)
            obtain ⟨co332, rq332, hw332, G332, E332, hf332⟩ := id R332
            refine wp_go rfl rfl ?_
            refine wp_go rfl rfl ?_
            refine wp_cv rfl rfl rfl G332 rfl rfl rfl ?_
            refine c_expS G332 hf332 (by decide) ?_
            refine wp_go rfl rfl ?_
            refine wp_go rfl rfl ?_
            refine wp_go rfl rfl ?_
            refine wp_go rfl rfl ?_
            refine wp_cv rfl rfl rfl G332 rfl rfl rfl ?_
            refine c_tknS H hn (((HT.w5.w5.fr (((Fr.rf (l := [55, 57])).wr rfl).wr rfl) rfl).w5.w5.fr (((Fr.rf (l := [55, 57])).wr rfl).wr rfl) rfl).w5.fr F332 rfl) G332 hf332 ?_
            refine wp_cv rfl rfl rfl G332 rfl rfl rfl ?_
            refine c_putS (by omega) R332 (fun h333 R333 F333 => ?_)
            obtain ⟨co333, rq333, hw333, G333, E333, hf333⟩ := id R333
            refine wp_go rfl rfl ?_
            refine wp_ret rfl rfl ?_
            exact kf _ _ hsp.symm _ R333 (((((((((((Fr.rf.wr rfl).wr rfl).wr rfl).wr rfl).wr rfl).wr rfl).wr rfl).wr rfl).wr rfl).tr F332 (fun _ z => z)).tr F333 (fun _ z => z))
      · skip
        rw [cX, if_neg z29] at hsp
        refine wp_go rfl rfl ?_
        refine wp_go rfl rfl ?_
        refine wp_go rfl rfl ?_
        refine wp_go rfl rfl ?_
        refine wp_cv rfl rfl rfl rfl rfl rfl rfl ?_
        refine c_tknS H hn (HT.w5.w5.fr (((Fr.rf (l := [55, 57])).wr rfl).wr rfl) rfl).w5 rfl (by decide) ?_
        refine wp_cv rfl rfl rfl rfl rfl rfl rfl ?_
        refine c_putS (by omega) (show RD _ cl wc tl rb lw 1 ((tP B n (i + 2) : Nat) : Int) (i + 2) from ⟨2, (hc_u rw_ (5 * cl + 1) (tN B n (i + 1))), by omega, rfl, rfl, by decide⟩) (fun h334 R334 F334 => ?_)
        obtain ⟨co334, rq334, hw334, G334, E334, hf334⟩ := id R334
        refine wp_go rfl rfl ?_
        refine wp_go rfl rfl ?_
        refine wp_cv rfl rfl rfl G334 rfl rfl rfl ?_
        refine c_expS G334 hf334 (by decide) ?_
        refine wp_go rfl rfl ?_
        refine wp_go rfl rfl ?_
        refine wp_go rfl rfl ?_
        refine wp_go rfl rfl ?_
        refine wp_cv rfl rfl rfl G334 rfl rfl rfl ?_
        refine c_tknS H hn ((HT.w5.w5.fr (((Fr.rf (l := [55, 57])).wr rfl).wr rfl) rfl).w5.fr F334 rfl) G334 hf334 ?_
        refine wp_cv rfl rfl rfl G334 rfl rfl rfl ?_
        refine c_putS (by omega) R334 (fun h335 R335 F335 => ?_)
        obtain ⟨co335, rq335, hw335, G335, E335, hf335⟩ := id R335
        refine wp_go rfl rfl ?_
        refine wp_go rfl rfl ?_
        refine wp_cv rfl rfl rfl G335 rfl rfl rfl ?_
        refine c_expS G335 hf335 (by decide) ?_
        refine wp_go rfl rfl ?_
        refine wp_go rfl rfl ?_
        refine wp_go rfl rfl ?_
        refine wp_go rfl rfl ?_
        refine wp_cv rfl rfl rfl G335 rfl rfl rfl ?_
        refine c_tknS H hn (((HT.w5.w5.fr (((Fr.rf (l := [55, 57])).wr rfl).wr rfl) rfl).w5.fr F334 rfl).fr F335 rfl) G335 hf335 ?_
        refine wp_cv rfl rfl rfl G335 rfl rfl rfl ?_
        refine c_putS (by omega) R335 (fun h336 R336 F336 => ?_)
        obtain ⟨co336, rq336, hw336, G336, E336, hf336⟩ := id R336
        refine wp_go rfl rfl ?_
        refine wp_ret rfl rfl ?_
        exact kf _ _ hsp.symm _ R336 ((((((((Fr.rf.wr rfl).wr rfl).wr rfl).wr rfl).wr rfl).tr F334 (fun _ z => z)).tr F335 (fun _ z => z)).tr F336 (fun _ z => z))
