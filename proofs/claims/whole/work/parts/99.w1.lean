/-! the law: its start -/
def cs0 : cT := (0, 0, 0, 23, 0, 0, -1, 0, fun _ => 0, fun _ => 0, fun _ => none, 0, 0, fun _ => 0)
def e0 : dX := (0, fun _ => 0, fun _ => 0, fun _ => 0, fun _ => 0)
def s0 : Nat → Int := fun k => match k with
  | 5 => -1
  | 6 => -1
  | _ => 0
def A0 : Nat → Int := hc_u (hc_u (fun _ => 0) 6 (-1)) 3 23
theorem PU0 : PU cs0 e0 := by
  refine ⟨⟨by decide, ⟨fun j _ => ⟨Int.le_refl 0, (show (0 : Int) ≤ 720720 by decide)⟩, fun j _ _ => rfl, ?_⟩, fun j _ => ⟨Int.le_refl 0, (show (0 : Int) ≤ 9 by decide)⟩, ⟨by decide, by decide⟩, ⟨by decide, by decide⟩, ⟨by decide, by decide⟩, Or.inl rfl, ⟨by decide, by decide, by decide, by decide⟩⟩, fun i hi => absurd hi (by show ¬ ((i : Int) < 0); omega), ⟨by decide, by decide⟩, ⟨by decide, by decide⟩, ⟨by decide, by decide⟩, by decide, fun j hj => absurd hj (Nat.not_lt_zero _), fun j hj => absurd hj (Nat.not_lt_zero _), fun j hj => absurd hj (Nat.not_lt_zero _), fun j _ => ⟨Int.le_refl 0, (show (0 : Int) ≤ 720720 by decide)⟩⟩
  show smk (fun _ => 0) 8 ≤ 720720
  rw [show smk (fun _ => 0) 8 = 0 from rfl]
  decide
theorem RA0 : RA A0 cs0 e0 := by
  have z : ∀ a, 7 ≤ a → A0 a = 0 := fun a h => (hu_n (by omega)).trans (hu_n (by omega))
  exact ⟨⟨rfl, rfl, rfl, rfl, rfl, rfl, rfl, rfl, rfl, rfl⟩, fun p _ => ⟨z _ (by omega), z _ (by omega)⟩, fun k _ => ⟨z _ (by omega), z _ (by omega), z _ (by omega)⟩, fun k _ => z _ (by omega), fun i hi => absurd hi (by show ¬ ((i : Int) < 0); omega)⟩
theorem RA1 : RA (cpA A0 (fun _ => 0) 456) cs0 e0 := RA0.cg (by decide) (fun q hq => if_pos hq)
set_option maxRecDepth 100000 in
theorem law_all {L : Nat} {xs : Nat → Int32} {Q : List hc_V → hc_H → Prop} (hL : L ≤ 3072) (kq : ∀ h2 : hc_H, h2.1 ≤ 600022 → h2.2.1 ≤ 7302250 → Q [xI 1] h2) : hc_wp (799 + 201) mL_law 0 [xR 0, none, none, none] [] (hc_h0 L xs) Q := by
  refine e_new (fs := [xN, xN, xN, xN, xN, xN, xN, xI 0]) rfl rfl ?_
  refine wp_go rfl rfl ?_
  refine wp_call rfl rfl rfl rfl ?_
  refine i_9_22 rfl (fun h1 n1 r1 c22 c23 c24 c25 c26 c27 c28 c29 c30 c31 c32 c33 c34 c35 c36 c37 c38 c39 c40 c41 c42 c43 c44 c45 c46 c47 c48 c49 c50 c51 c52 c53 c54 c55 c56 c57 c58 c59 c60 c61 c62 c63 c64 c65 c66 c67 c68 c69 c70 z1 => ?_)
  refine e_astn (L' := [xR 0, xR 22, none, none]) rfl rfl rfl ?_
  obtain ⟨ad, sl, f1⟩ := h1
  have n1 : ad = 71 := n1
  subst n1
  refine e_new (fs := [xN, xN, xN, xN, xI 0, xI 0, xI 0, xI 0, xI 0, xI 0, xI 0, xL 0, xI 0, xI 0, xI 0, xI 0, xN, xI 0, xI 0, xI 0, xI 0, xI 0, xI 0, xN, xN, xN, xN, xN, xN, xN, xI 0, xN, xN, xN, xN, xN, xN, xN]) rfl rfl ?_
  refine wp_go rfl rfl ?_
  refine wp_call rfl rfl rfl rfl ?_
  refine i_10_71 rfl (fun h2 n2 r2 m73 m71 m72 m74 m75 m76 m77 m78 m79 m80 m81 m82 m83 m84 m85 m86 m87 m88 m89 m90 z2 => ?_)
  refine e_astn (L' := [xR 0, xR 22, xR 71, none]) rfl rfl rfl ?_
  refine wp_go rfl rfl ?_
  refine e_istn (L' := [xR 0, xR 22, xR 71, xI 0]) rfl rfl rfl ?_
  have r1 : sl ≤ 0 + 8 + 5000 := r1
  have r2 : h2.2.1 ≤ sl + 38 + 6000 := r2
  have up : ∀ a, a < 71 → h2.2.2 a = f1 a := fun a ha => (z2 a ha).trans (al_ne (h := (71, sl, f1)) (n := 38) (show a ≠ 71 by omega))
  have dn : ∀ a, a < 22 → h2.2.2 a = hc_sp L xs a := fun a ha => (up a (by omega)).trans ((z1 a ha).trans ((al_ne (h := hc_h0 L xs) (n := 8) (show a ≠ 22 by omega)).trans (by
    have : Nat.blt a 22 = true := by rw [Nat.blt_eq]; exact ha
    simp only [hc_h0, this, cond_true])))
  have c22 := (up 22 (by decide)).trans c22
  have c23 := (up 23 (by decide)).trans c23
  have c24 := (up 24 (by decide)).trans c24
  have c25 := (up 25 (by decide)).trans c25
  have c26 := (up 26 (by decide)).trans c26
  have c27 := (up 27 (by decide)).trans c27
  have c28 := (up 28 (by decide)).trans c28
  have c29 := (up 29 (by decide)).trans c29
  have c30 := (up 30 (by decide)).trans c30
  have c31 := (up 31 (by decide)).trans c31
  have c32 := (up 32 (by decide)).trans c32
  have c33 := (up 33 (by decide)).trans c33
  have c34 := (up 34 (by decide)).trans c34
  have c35 := (up 35 (by decide)).trans c35
  have c36 := (up 36 (by decide)).trans c36
  have c37 := (up 37 (by decide)).trans c37
  have c38 := (up 38 (by decide)).trans c38
  have c39 := (up 39 (by decide)).trans c39
  have c40 := (up 40 (by decide)).trans c40
  have c41 := (up 41 (by decide)).trans c41
  have c42 := (up 42 (by decide)).trans c42
  have c43 := (up 43 (by decide)).trans c43
  have c44 := (up 44 (by decide)).trans c44
  have c45 := (up 45 (by decide)).trans c45
  have c46 := (up 46 (by decide)).trans c46
  have c47 := (up 47 (by decide)).trans c47
  have c48 := (up 48 (by decide)).trans c48
  have c49 := (up 49 (by decide)).trans c49
  have c50 := (up 50 (by decide)).trans c50
  have c51 := (up 51 (by decide)).trans c51
  have c52 := (up 52 (by decide)).trans c52
  have c53 := (up 53 (by decide)).trans c53
  have c54 := (up 54 (by decide)).trans c54
  have c55 := (up 55 (by decide)).trans c55
  have c56 := (up 56 (by decide)).trans c56
  have c57 := (up 57 (by decide)).trans c57
  have c58 := (up 58 (by decide)).trans c58
  have c59 := (up 59 (by decide)).trans c59
  have c60 := (up 60 (by decide)).trans c60
  have c61 := (up 61 (by decide)).trans c61
  have c62 := (up 62 (by decide)).trans c62
  have c63 := (up 63 (by decide)).trans c63
  have c64 := (up 64 (by decide)).trans c64
  have c65 := (up 65 (by decide)).trans c65
  have c66 := (up 66 (by decide)).trans c66
  have c67 := (up 67 (by decide)).trans c67
  have c68 := (up 68 (by decide)).trans c68
  have c69 := (up 69 (by decide)).trans c69
  have c70 := (up 70 (by decide)).trans c70
  have tz : ∀ q : Nat, TTB h2 none := fun _ t q => by cases q
  have I : INV h2 L (fun j => (xs j).toInt) := by
    refine ⟨cs0, cs0, e0, e0, 0, fun _ => 0, s0, A0, cpA A0 (fun _ => 0) 456, fun _ => 0, 0, 0, -1, fun _ => none, fun _ => none, fun _ => 0, fun _ _ => 0, ⟨dn 0 (by decide), fun i hi => dn (i + 1) (by omega)⟩, ⟨c22, c70⟩, ⟨⟨c23, c27, c28, c29, c30, c31, ⟨_, c24⟩, ⟨_, fun _ => ⟨by decide, by decide⟩, c25⟩, _, c26⟩, c32, c33, c34, c35, c36⟩, ⟨c37, c41, c42, c43, c44, c45, c46, c47, c48, c49, c50⟩, ⟨_, _, _, _, _, _, _, c51, c52, c53, c54⟩, ⟨_, _, _, _, _, _, _, c58, c59, c60, c61, c62, c63, c64⟩, ⟨_, _, _, _, _, fun _ _ => ⟨by decide, by decide⟩, c65, c66, c67, c68, c69⟩, ⟨0, 0, 0, 0, 0, 0, xN, xN, xN, _, _, c55, c56, c57⟩, ⟨m71, m72, m73, m74, m75⟩, ⟨_, m76⟩, ⟨⟨_, fun _ _ => ⟨by decide, by decide⟩, m77⟩, ⟨_, m78⟩, _, m79⟩, ⟨_, _, _, _, fun _ _ => ⟨by decide, by decide⟩, m80, m81, m82, m83⟩, ⟨_, _, _, _, _, m84, m85, m86, m87, m88⟩, ⟨_, _, m89, m90⟩, ⟨by decide, fun _ _ => ⟨Int.le_refl 0, (show (0 : Int) ≤ 255 by decide)⟩, rfl⟩, Or.inl ⟨rfl, rfl, rfl⟩, PU0, PU0, RA0, RA1, fun t ht => absurd ht (by show ¬ ((t : Int) < 0); omega), ⟨Int.le_refl _, fun _ _ => rfl, fun p _ => tz p, fun p _ => tz p⟩, by omega⟩
  exact law_loop (d := 799) hL (fun j => ⟨hc_lo _, hc_hi _⟩) kq 513 0 0 h2 (by decide) (by omega) (by omega) I (by omega) (by omega)
theorem law_run (L : Nat) (xs : Nat → Int32) (hL : L ≤ 3072) : ∃ (n : Nat) (h' : hc_H), hc_run n 1000 mL_law 0 [xR 0, none, none, none] [] (hc_h0 L xs) = some ([xI 1], h') ∧ h'.1 ≤ 600022 ∧ h'.2.1 ≤ 7302250 := by
  obtain ⟨n, v, h', hr, hv, h1, h2⟩ := law_all (xs := xs) (Q := fun v h' => v = [xI 1] ∧ h'.1 ≤ 600022 ∧ h'.2.1 ≤ 7302250) hL (fun h2 a b => ⟨rfl, a, b⟩)
  subst hv
  exact ⟨n, h', hr, h1, h2⟩
theorem whole_start {p : Program} {e : Env} {s : State} {m : MethodId} {below : List Frame} {meth : Method} {c : Code} (l : Launch) {b L : Nat} {xs : Nat → Int32} (hL : L ≤ 3072) (C0 : lw_At p s m meth c b L xs) : W p l e room_1 s m #[Value.ref b] below meth c s.heap [] 0 0 (lw_Z below #[Value.ref b] s) (entryFrame m ([Value.ref b] : List Value).toArray 4) := whole_of hc_MTok ok_L_law law_run l hL C0
