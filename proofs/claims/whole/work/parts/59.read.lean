/-! the class: Reader, fifth part: rows that are made, laws -/
def FA (c s : Nat) (l : List Nat) (h h2 : hc_H) : Prop := h.1 ≤ h2.1 ∧ h2.1 ≤ h.1 + c ∧ h2.2.1 ≤ h.2.1 + s ∧ ∀ a, a < h.1 → nin l a = true → h2.2.2 a = h.2.2 a
theorem Fr.fa {l : List Nat} {h h2 : hc_H} (F : Fr l h h2) : FA 0 0 l h h2 := ⟨by rw [F.1]; exact Nat.le_refl _, by rw [F.1]; exact Nat.le_refl _, by rw [F.2.1]; exact Nat.le_refl _, fun a _ hn => F.2.2 a hn⟩
theorem FA.tr {c1 s1 c2 s2 : Nat} {l1 l2 l : List Nat} {h h1 h2 : hc_H} (F1 : FA c1 s1 l1 h h1) (F2 : FA c2 s2 l2 h1 h2) (hs1 : ∀ a, nin l a = true → nin l1 a = true) (hs2 : ∀ a, nin l a = true → nin l2 a = true) : FA (c1 + c2) (s1 + s2) l h h2 := by
  obtain ⟨a1, a2, a3, a4⟩ := F1
  obtain ⟨b1, b2, b3, b4⟩ := F2
  exact ⟨by omega, by omega, by omega, fun a ha hn => (b4 a (by omega) (hs2 a hn)).trans (a4 a ha (hs1 a hn))⟩
theorem FA.le {c1 s1 c2 s2 : Nat} {l1 l2 : List Nat} {h h2 : hc_H} (F : FA c1 s1 l1 h h2) (hc : c1 ≤ c2) (hs : s1 ≤ s2) (hl : ∀ a, nin l2 a = true → nin l1 a = true) : FA c2 s2 l2 h h2 := by
  obtain ⟨a1, a2, a3, a4⟩ := F
  exact ⟨by omega, by omega, by omega, fun a ha hn => a4 a ha (hl a hn)⟩
def AL (m : Nat) (h h2 : hc_H) : Prop := h2.1 = h.1 + 1 ∧ h2.2.1 = h.2.1 + m ∧ ∀ a, a ≠ h.1 → h2.2.2 a = h.2.2 a
theorem AL.fa {m : Nat} {h h2 : hc_H} {l : List Nat} (A : AL m h h2) : FA 1 m l h h2 := by
  obtain ⟨a1, a2, a3⟩ := A
  exact ⟨by omega, by omega, by omega, fun a ha _ => a3 a (by omega)⟩
theorem TOKH.fa {h h2 : hc_H} {B : Nat → Int} {n c s : Nat} {l : List Nat} (H : TOKH h B n) (F : FA c s l h h2) (h91 : 91 ≤ h.1) (hl : (nin l 51 && nin l 52 && nin l 53 && nin l 54) = true) : TOKH h2 B n := by
  obtain ⟨c, bh, ks, ps, ns, a1, a2, a3, a4, r⟩ := H
  simp only [Bool.and_eq_true] at hl
  exact ⟨c, bh, ks, ps, ns, (F.2.2.2 51 (by omega) hl.1.1.1).trans a1, (F.2.2.2 52 (by omega) hl.1.1.2).trans a2, (F.2.2.2 53 (by omega) hl.1.2).trans a3, (F.2.2.2 54 (by omega) hl.2).trans a4, r⟩
theorem al_at {h : hc_H} {n : Nat} {v : hc_E} : (hc_al h n v).2.2 h.1 = v := by
  simp only [hc_al, hc_up, Nat.beq_refl, cond_true]
theorem al_ne {h : hc_H} {n a : Nat} {v : hc_E} (ha : a ≠ h.1) : (hc_al h n v).2.2 a = h.2.2 a := by
  simp only [hc_al, hc_up, hc_bne ha, cond_false]
theorem wr_at {h : hc_H} {a : Nat} {v : hc_E} : (hc_wr h a v).2.2 a = v := by
  simp only [hc_wr, hc_up, Nat.beq_refl, cond_true]
section MADE
variable {d : Nat} {mi : hc_M} {pc nx a b w u : Nat} {L st : List hc_V} {h : hc_H} {Q : List hc_V → hc_H → Prop}
theorem e_clone {i r n : Nat} {f : Nat → Int} (hc : hc_gt (hc_c mi) pc = some (nx, .invokevirtual i, 1005, b, w, u)) (hz : Nat.ble (hc_sz (xR r :: st)) 8 = true) (hh : h.2.2 r = .inl (0, n, .inl f)) (k : hc_wp (d + 1) mi nx L (xR h.1 :: st) (hc_al h n (.inl (0, n, .inl f))) Q) : hc_wp (d + 1) mi pc L (xR r :: st) h Q :=
  wp_go hc (by simp only [hc_kind, show Nat.ble 1000 1005 = true from rfl, cond_true, hc_prim, hz, hc_clone, hh, show Nat.beq 0 0 = true from rfl, hc_go]) k
theorem e_cast {i r n : Nat} {f : Nat → Int} (hc : hc_gt (hc_c mi) pc = some (nx, .checkcast i, a, b, w, u)) (hh : h.2.2 r = .inl (0, n, .inl f)) (k : hc_wp d mi nx L (xR r :: st) h Q) : hc_wp d mi pc L (xR r :: st) h Q :=
  wp_go hc (by simp only [hc_kind, hc_cast, hh, show Nat.beq 0 0 = true from rfl, cond_true, hc_go]) k
theorem e_new {i : Nat} {fs : List hc_V} (hc : hc_gt (hc_c mi) pc = some (nx, .new i, a, b, w, u)) (hf : hc_gt hc_D a = some fs) (k : hc_wp d mi nx L (xR h.1 :: st) (hc_al h fs.length (.inr (a, fs))) Q) : hc_wp d mi pc L st h Q :=
  wp_go hc (by simp only [hc_kind, hc_new, hf, hc_go]) k
end MADE
set_option maxRecDepth 100000 in
theorem c_copyOf {d : Nat} {h : hc_H} {Q : List hc_V → hc_H → Prop} {r n0 m : Nat} {f : Nat → Int} (H : h.2.2 r = ar n0 f) (hr : r < h.1) (hm : m ≤ n0) (hn : n0 ≤ 1000) (k : ∀ h2 g, AL m h h2 → h2.2.2 h.1 = ar m g → (∀ t, t < m → g t = f t) → Q [xR h.1] h2) : hc_wp (d + 1) mJ7_copyOf_59c91 0 [xR r, xI (m : Int), none] [] h Q := by
  refine wp_go rfl rfl ?_
  refine wp_go rfl rfl ?_
  refine e_alen rfl H rfl (by omega) ?_
  refine e_cne rfl (fun c3 => ?_) (fun c3 => ?_)
  · refine wp_go rfl rfl ?_
    refine e_newa (t := 0) rfl rfl (by omega) ?_
    refine e_astn (L' := [xR r, xI (m : Int), xR h.1]) rfl rfl rfl ?_
    refine wp_go rfl rfl ?_
    refine wp_go rfl rfl ?_
    refine wp_go rfl rfl ?_
    refine wp_go rfl rfl ?_
    refine wp_go rfl rfl ?_
    refine e_alen rfl ((al_ne (show r ≠ h.1 by omega)).trans H) rfl (by omega) ?_
    refine wp_go rfl rfl ?_
    refine wp_go rfl rfl ?_
    show hc_wp (d + 1) mJ7_copyOf_59c91 28 _ (xI (if (m : Int) < (n0 : Int) then (m : Int) else (n0 : Int)) :: _) _ Q
    rw [if_pos (show (m : Int) < (n0 : Int) by omega)]
    refine e_copy rfl rfl ((al_ne (show r ≠ h.1 by omega)).trans H) al_at (by omega) ?_
    refine wp_go rfl rfl ?_
    refine wp_ret rfl rfl ?_
    refine k _ _ ⟨rfl, ?_, fun a ha => ?_⟩ wr_at (fun t ht => ?_)
    · show h.2.1 + Int.toNat (m : Int) = h.2.1 + m
      omega
    · rw [hw_ne ha (al_ne ha)]
    · unfold hc_cpy
      rw [if_pos (by omega)]
      congr 1
      omega
  · refine wp_go rfl rfl ?_
    refine e_clone rfl rfl H ?_
    refine e_cast rfl al_at ?_
    refine wp_ret rfl rfl ?_
    have e : m = n0 := by omega
    subst e
    exact k _ f ⟨rfl, rfl, fun a ha => al_ne ha⟩ al_at (fun t ht => rfl)
