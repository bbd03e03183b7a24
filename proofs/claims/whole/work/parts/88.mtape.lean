/-! the reference: the tape; common measures -/
def by4 (B : Nat → Int) (n : Nat) (v : Int) : Nat → Int := hc_u (hc_u (hc_u (hc_u B n (byv v 24)) (n + 1) (byv v 16)) (n + 2) (byv v 8)) (n + 3) (byv v 0)
def by20 (B : Nat → Int) (n : Nat) (a b c d e : Int) : Nat → Int := by4 (by4 (by4 (by4 (by4 B n a) (n + 4) b) (n + 8) c) (n + 12) d) (n + 16) e
theorem BY.u {B : Nat → Int} {n : Nat} {v : Int} (H : BY B) (hv : 0 ≤ v ∧ v ≤ 255) : BY (hc_u B n v) := by
  intro j hj
  by_cases c : j = n
  · rw [c, hu_s]
    exact hv
  · rw [hu_n c]
    exact H j hj
theorem BY.b4 {B : Nat → Int} {n : Nat} {v : Int} (H : BY B) : BY (by4 B n v) := (((H.u byv_bd).u byv_bd).u byv_bd).u byv_bd
theorem BY.b20 {B : Nat → Int} {n : Nat} {a b c d e : Int} (H : BY B) : BY (by20 B n a b c d e) := H.b4.b4.b4.b4.b4
set_option maxRecDepth 100000 in
theorem c_mfour {d : Nat} {h : hc_H} {Q : List hc_V → hc_H → Prop} {n : Nat} {v : Int} {s B : Nat → Int} (H71 : h.2.2 71 = mo s) (H75 : h.2.2 75 = ar 300 B) (hn : s 4 = (n : Int)) (hb : n + 4 ≤ 300) (k : ∀ h2, h2.2.2 71 = mo (hc_u s 4 ((n + 4 : Nat) : Int)) → h2.2.2 75 = ar 300 (by4 B n v) → Fr [71, 75] h h2 → Q [] h2) : hc_wp d mX10_four 0 [xR 71, xI v, none] [] h Q := by
  have H71p : h.2.2 71 = .inr (10, [xR 72, xR 73, xR 74, xR 75, xI (n : Int), xI (s 5), xI (s 6), xI (s 7), xI (s 8), xI (s 9), xI (s 10), xL (s 11), xI (s 12), xI (s 13), xI (s 14), xI (s 15), xR 76, xI (s 17), xI (s 18), xI (s 19), xI (s 20), xI (s 21), xI (s 22), xR 77, xR 78, xR 79, xR 80, xR 81, xR 82, xR 83, xI (s 30), xR 84, xR 85, xR 86, xR 87, xR 88, xR 89, xR 90]) := by rw [← hn]; exact H71
  refine wp_go rfl rfl ?_
  refine e_istn (L' := [xR 71, xI v, xI 24]) rfl rfl rfl ?_
  refine wp_go rfl rfl ?_
  refine wp_go rfl rfl ?_
  refine wp_go rfl rfl ?_
  refine e_get rfl H71p rfl rfl ?_
  refine wp_go rfl rfl ?_
  refine e_get rfl H71p rfl rfl ?_
  refine wp_go rfl rfl ?_
  refine wp_go rfl rfl ?_
  refine wp_go rfl rfl ?_
  refine wp_go rfl rfl ?_
  refine wp_go rfl rfl ?_
  rw [show hc_and (hc_shr v 24) 255 = byv v 24 from rfl]
  refine e_iastE (p := n) rfl H75 ⟨by omega, by omega⟩ ?_
  refine wp_go rfl rfl ?_
  refine wp_go rfl rfl ?_
  refine e_get rfl H71p rfl rfl ?_
  refine wp_go rfl rfl ?_
  refine e_iadd rfl (by omega) ?_
  rw [show (n : Int) + 1 = ((n + 1 : Nat) : Int) by omega]
  refine e_put (fs' := [xR 72, xR 73, xR 74, xR 75, xI ((n + 1 : Nat) : Int), xI (s 5), xI (s 6), xI (s 7), xI (s 8), xI (s 9), xI (s 10), xL (s 11), xI (s 12), xI (s 13), xI (s 14), xI (s 15), xR 76, xI (s 17), xI (s 18), xI (s 19), xI (s 20), xI (s 21), xI (s 22), xR 77, xR 78, xR 79, xR 80, xR 81, xR 82, xR 83, xI (s 30), xR 84, xR 85, xR 86, xR 87, xR 88, xR 89, xR 90]) rfl H71p rfl rfl ?_
  refine e_inc (L' := [xR 71, xI v, xI (24 + (-8))]) rfl rfl (by omega) rfl ?_
  rw [show (24 : Int) + (-8) = 16 from rfl]
  refine wp_go rfl rfl ?_
  refine wp_go rfl rfl ?_
  refine wp_go rfl rfl ?_
  refine wp_go rfl rfl ?_
  refine e_get rfl rfl rfl rfl ?_
  refine wp_go rfl rfl ?_
  refine e_get rfl rfl rfl rfl ?_
  refine wp_go rfl rfl ?_
  refine wp_go rfl rfl ?_
  refine wp_go rfl rfl ?_
  refine wp_go rfl rfl ?_
  refine wp_go rfl rfl ?_
  rw [show hc_and (hc_shr v 16) 255 = byv v 16 from rfl]
  refine e_iastE (p := n + 1) rfl rfl ⟨by omega, by omega⟩ ?_
  refine wp_go rfl rfl ?_
  refine wp_go rfl rfl ?_
  refine e_get rfl rfl rfl rfl ?_
  refine wp_go rfl rfl ?_
  refine e_iadd rfl (by omega) ?_
  rw [show ((n + 1 : Nat) : Int) + 1 = ((n + 2 : Nat) : Int) by omega]
  refine e_put (fs' := [xR 72, xR 73, xR 74, xR 75, xI ((n + 2 : Nat) : Int), xI (s 5), xI (s 6), xI (s 7), xI (s 8), xI (s 9), xI (s 10), xL (s 11), xI (s 12), xI (s 13), xI (s 14), xI (s 15), xR 76, xI (s 17), xI (s 18), xI (s 19), xI (s 20), xI (s 21), xI (s 22), xR 77, xR 78, xR 79, xR 80, xR 81, xR 82, xR 83, xI (s 30), xR 84, xR 85, xR 86, xR 87, xR 88, xR 89, xR 90]) rfl rfl rfl rfl ?_
  refine e_inc (L' := [xR 71, xI v, xI (16 + (-8))]) rfl rfl (by omega) rfl ?_
  rw [show (16 : Int) + (-8) = 8 from rfl]
  refine wp_go rfl rfl ?_
  refine wp_go rfl rfl ?_
  refine wp_go rfl rfl ?_
  refine wp_go rfl rfl ?_
  refine e_get rfl rfl rfl rfl ?_
  refine wp_go rfl rfl ?_
  refine e_get rfl rfl rfl rfl ?_
  refine wp_go rfl rfl ?_
  refine wp_go rfl rfl ?_
  refine wp_go rfl rfl ?_
  refine wp_go rfl rfl ?_
  refine wp_go rfl rfl ?_
  rw [show hc_and (hc_shr v 8) 255 = byv v 8 from rfl]
  refine e_iastE (p := n + 2) rfl rfl ⟨by omega, by omega⟩ ?_
  refine wp_go rfl rfl ?_
  refine wp_go rfl rfl ?_
  refine e_get rfl rfl rfl rfl ?_
  refine wp_go rfl rfl ?_
  refine e_iadd rfl (by omega) ?_
  rw [show ((n + 2 : Nat) : Int) + 1 = ((n + 3 : Nat) : Int) by omega]
  refine e_put (fs' := [xR 72, xR 73, xR 74, xR 75, xI ((n + 3 : Nat) : Int), xI (s 5), xI (s 6), xI (s 7), xI (s 8), xI (s 9), xI (s 10), xL (s 11), xI (s 12), xI (s 13), xI (s 14), xI (s 15), xR 76, xI (s 17), xI (s 18), xI (s 19), xI (s 20), xI (s 21), xI (s 22), xR 77, xR 78, xR 79, xR 80, xR 81, xR 82, xR 83, xI (s 30), xR 84, xR 85, xR 86, xR 87, xR 88, xR 89, xR 90]) rfl rfl rfl rfl ?_
  refine e_inc (L' := [xR 71, xI v, xI (8 + (-8))]) rfl rfl (by omega) rfl ?_
  rw [show (8 : Int) + (-8) = 0 from rfl]
  refine wp_go rfl rfl ?_
  refine wp_go rfl rfl ?_
  refine wp_go rfl rfl ?_
  refine wp_go rfl rfl ?_
  refine e_get rfl rfl rfl rfl ?_
  refine wp_go rfl rfl ?_
  refine e_get rfl rfl rfl rfl ?_
  refine wp_go rfl rfl ?_
  refine wp_go rfl rfl ?_
  refine wp_go rfl rfl ?_
  refine wp_go rfl rfl ?_
  refine wp_go rfl rfl ?_
  rw [show hc_and (hc_shr v 0) 255 = byv v 0 from rfl]
  refine e_iastE (p := n + 3) rfl rfl ⟨by omega, by omega⟩ ?_
  refine wp_go rfl rfl ?_
  refine wp_go rfl rfl ?_
  refine e_get rfl rfl rfl rfl ?_
  refine wp_go rfl rfl ?_
  refine e_iadd rfl (by omega) ?_
  rw [show ((n + 3 : Nat) : Int) + 1 = ((n + 4 : Nat) : Int) by omega]
  refine e_put (fs' := [xR 72, xR 73, xR 74, xR 75, xI ((n + 4 : Nat) : Int), xI (s 5), xI (s 6), xI (s 7), xI (s 8), xI (s 9), xI (s 10), xL (s 11), xI (s 12), xI (s 13), xI (s 14), xI (s 15), xR 76, xI (s 17), xI (s 18), xI (s 19), xI (s 20), xI (s 21), xI (s 22), xR 77, xR 78, xR 79, xR 80, xR 81, xR 82, xR 83, xI (s 30), xR 84, xR 85, xR 86, xR 87, xR 88, xR 89, xR 90]) rfl rfl rfl rfl ?_
  refine e_inc (L' := [xR 71, xI v, xI (0 + (-8))]) rfl rfl (by omega) rfl ?_
  rw [show (0 : Int) + (-8) = (-8) from rfl]
  refine wp_go rfl rfl ?_
  refine wp_go rfl rfl ?_
  refine wp_go rfl rfl ?_
  refine wp_ret rfl rfl ?_
  exact k _ rfl rfl ((((((((Fr.rf.wr rfl).wr rfl).wr rfl).wr rfl).wr rfl).wr rfl).wr rfl).wr rfl)
set_option maxRecDepth 100000 in
theorem c_mfeed {d : Nat} {h : hc_H} {Q : List hc_V → hc_H → Prop} {n : Nat} {v1 v2 v3 v4 v5 : Int} {s B : Nat → Int} (H71 : h.2.2 71 = mo s) (H75 : h.2.2 75 = ar 300 B) (hn : s 4 = (n : Int)) (hn3 : n ≤ 300) (kf : 280 < n → Q [xI (-1)] h) (kt : n ≤ 280 → ∀ h2 s2, h2.2.2 71 = mo s2 → s2 4 = ((n + 20 : Nat) : Int) → ME [4] s s2 → h2.2.2 75 = ar 300 (by20 B n v1 v2 v3 v4 v5) → Fr [71, 75] h h2 → Q [xI ((n + 20 : Nat) : Int)] h2) : hc_wp (d + 1) mX10_feed 0 [xR 71, xI v1, xI v2, xI v3, xI v4, xI v5] [] h Q := by
  have H71p : h.2.2 71 = .inr (10, [xR 72, xR 73, xR 74, xR 75, xI (n : Int), xI (s 5), xI (s 6), xI (s 7), xI (s 8), xI (s 9), xI (s 10), xL (s 11), xI (s 12), xI (s 13), xI (s 14), xI (s 15), xR 76, xI (s 17), xI (s 18), xI (s 19), xI (s 20), xI (s 21), xI (s 22), xR 77, xR 78, xR 79, xR 80, xR 81, xR 82, xR 83, xI (s 30), xR 84, xR 85, xR 86, xR 87, xR 88, xR 89, xR 90]) := by rw [← hn]; exact H71
  refine wp_go rfl rfl ?_
  refine e_get rfl H71p rfl rfl ?_
  refine wp_go rfl rfl ?_
  refine e_iadd rfl (by omega) ?_
  refine wp_go rfl rfl ?_
  refine e_cle rfl (fun c10 => ?_) (fun c10 => ?_)
  · skip
    refine wp_go rfl rfl ?_
    refine wp_go rfl rfl ?_
    refine wp_cv rfl rfl rfl H71p rfl rfl rfl ?_
    refine c_mfour (n := n) H71 H75 hn (by omega) (fun h2 A1 B1 F1 => ?_)
    refine wp_go rfl rfl ?_
    refine wp_go rfl rfl ?_
    refine wp_cv rfl rfl rfl A1 rfl rfl rfl ?_
    refine c_mfour (n := n + 4) A1 B1 rfl (by omega) (fun h3 A2 B2 F2 => ?_)
    refine wp_go rfl rfl ?_
    refine wp_go rfl rfl ?_
    refine wp_cv rfl rfl rfl A2 rfl rfl rfl ?_
    refine c_mfour (n := n + 8) A2 B2 rfl (by omega) (fun h4 A3 B3 F3 => ?_)
    refine wp_go rfl rfl ?_
    refine wp_go rfl rfl ?_
    refine wp_cv rfl rfl rfl A3 rfl rfl rfl ?_
    refine c_mfour (n := n + 12) A3 B3 rfl (by omega) (fun h5 A4 B4 F4 => ?_)
    refine wp_go rfl rfl ?_
    refine wp_go rfl rfl ?_
    refine wp_cv rfl rfl rfl A4 rfl rfl rfl ?_
    refine c_mfour (n := n + 16) A4 B4 rfl (by omega) (fun h6 A5 B5 F5 => ?_)
    refine wp_go rfl rfl ?_
    refine e_get rfl A5 rfl rfl ?_
    refine wp_ret rfl rfl ?_
    exact kt (by omega) h6 _ A5 rfl (((((ME.rf.u rfl).u rfl).u rfl).u rfl).u rfl) B5 ((((F1.tr F2 (fun _ z => z)).tr F3 (fun _ z => z)).tr F4 (fun _ z => z)).tr F5 (fun _ z => z))
  · skip
    refine wp_go rfl rfl ?_
    refine wp_ret rfl rfl ?_
    exact kf (by omega)
set_option maxRecDepth 100000 in
theorem c_mend {d : Nat} {h : hc_H} {Q : List hc_V → hc_H → Prop} {n : Nat} {v : Int} {s : Nat → Int} (H71 : h.2.2 71 = mo s) (hn : s 4 = (n : Int)) (hn3 : n ≤ 300) (kf : (v < 0 ∨ (n : Int) < v) → Q [xI (-1)] h) (kt : 0 ≤ v ∧ v ≤ (n : Int) → ∀ h2, h2.2.2 71 = mo (hc_u s 4 v) → Fr [71] h h2 → Q [xI v] h2) : hc_wp (d + 1) mX10_end 0 [xR 71, xI v] [] h Q := by
  have H71p : h.2.2 71 = .inr (10, [xR 72, xR 73, xR 74, xR 75, xI (n : Int), xI (s 5), xI (s 6), xI (s 7), xI (s 8), xI (s 9), xI (s 10), xL (s 11), xI (s 12), xI (s 13), xI (s 14), xI (s 15), xR 76, xI (s 17), xI (s 18), xI (s 19), xI (s 20), xI (s 21), xI (s 22), xR 77, xR 78, xR 79, xR 80, xR 81, xR 82, xR 83, xI (s 30), xR 84, xR 85, xR 86, xR 87, xR 88, xR 89, xR 90]) := by rw [← hn]; exact H71
  refine wp_go rfl rfl ?_
  refine wp_go rfl rfl ?_
  refine wp_go rfl rfl ?_
  refine e_get rfl H71p rfl rfl ?_
  refine wp_call rfl rfl rfl rfl ?_
  refine c_isIn  (fun q6 => ?_) (fun q6 => ?_)
  · skip
    refine wp_go rfl rfl ?_
    refine wp_go rfl rfl ?_
    refine wp_go rfl rfl ?_
    refine e_put (fs' := [xR 72, xR 73, xR 74, xR 75, xI v, xI (s 5), xI (s 6), xI (s 7), xI (s 8), xI (s 9), xI (s 10), xL (s 11), xI (s 12), xI (s 13), xI (s 14), xI (s 15), xR 76, xI (s 17), xI (s 18), xI (s 19), xI (s 20), xI (s 21), xI (s 22), xR 77, xR 78, xR 79, xR 80, xR 81, xR 82, xR 83, xI (s 30), xR 84, xR 85, xR 86, xR 87, xR 88, xR 89, xR 90]) rfl H71p rfl rfl ?_
    refine wp_go rfl rfl ?_
    refine wp_ret rfl rfl ?_
    exact kt (by omega) _ rfl (Fr.rf.wr rfl)
  · skip
    refine wp_go rfl rfl ?_
    refine wp_go rfl rfl ?_
    refine wp_ret rfl rfl ?_
    exact kf (by omega)
