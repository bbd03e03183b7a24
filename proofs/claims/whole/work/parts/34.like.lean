/-! the class: a whole town becomes like another -/
set_option maxRecDepth 100000 in
theorem c_like_k {d : Nat} {h : hc_H} {Q : List hc_V → hc_H → Prop} {fk0 dy0 rn0 x0 wt0 tc0 ru0 sc0 fk1 dy1 rn1 x1 wt1 tc1 ru1 sc1 fs0 ct0 fs1 ct1 cn0 cn1 : Int} {tx0 tx1 : Nat → Option Nat} {mk0 mk1 sl0 sl1 sn0 sn1 rs0 rs1 dt0 dt1 ow0 ow1 am0 am1 : Nat → Int} (HD : h.2.2 37 = tw2 fk0 dy0 rn0 x0 wt0 tc0 ru0 sc0) (HS : h.2.2 23 = tw fk1 dy1 rn1 x1 wt1 tc1 ru1 sc1) (HDx : h.2.2 43 = .inl (3, 4, .inr tx0)) (HSx : h.2.2 29 = .inl (3, 4, .inr tx1)) (HT : ∀ p, p < 4 → TT h (tx1 p)) (HDst : h.2.2 44 = stp2 fs0 ct0) (HSst : h.2.2 30 = stp fs1 ct1) (HDd : h.2.2 46 = dbt2 cn0) (HSd : h.2.2 32 = dbt cn1) (HDmk : h.2.2 41 = ar 8 mk0) (HSmk : h.2.2 27 = ar 8 mk1) (HDsl : h.2.2 42 = ar 8 sl0) (HSsl : h.2.2 28 = ar 8 sl1) (HDsn : h.2.2 50 = ar 8 sn0) (HSsn : h.2.2 36 = ar 8 sn1) (HDrs : h.2.2 45 = ar 330 rs0) (HSrs : h.2.2 31 = ar 330 rs1) (HDdt : h.2.2 47 = ar 20 dt0) (HSdt : h.2.2 33 = ar 20 dt1) (HDow : h.2.2 48 = ar 20 ow0) (HSow : h.2.2 34 = ar 20 ow1) (HDam : h.2.2 49 = ar 20 am0) (HSam : h.2.2 35 = ar 20 am1) (k : ∀ h2, h2.2.2 37 = tw2 fk1 dy1 rn1 x1 wt1 tc1 ru1 sc1 → h2.2.2 43 = .inl (3, 4, .inr (cc 4 tx1 tx0)) → h2.2.2 44 = stp2 fs1 ct1 → h2.2.2 46 = dbt2 cn1 → h2.2.2 41 = ar 8 (cc 8 mk1 mk0) → h2.2.2 42 = ar 8 (cc 8 sl1 sl0) → h2.2.2 50 = ar 8 (cc 8 sn1 sn0) → h2.2.2 45 = ar 330 (cc 330 rs1 rs0) → h2.2.2 47 = ar 20 (cc 20 dt1 dt0) → h2.2.2 48 = ar 20 (cc 20 ow1 ow0) → h2.2.2 49 = ar 20 (cc 20 am1 am0) → Fr [37, 41, 42, 43, 44, 45, 46, 47, 48, 49, 50] h h2 → Q [] h2) : hc_wp (d + 2) mX7_becomeLike 0 [xR 37, xR 23, none] [] h Q := by
  refine wp_go rfl rfl ?_
  refine wp_go rfl rfl ?_
  refine e_get rfl HS rfl rfl ?_
  refine e_put (fs' := [xR 38, xI fk1, xR 41, xR 42, xI dy0, xI rn0, xI x0, xI wt0, xR 43, xI tc0, xI ru0, xR 44, xR 46, xR 50, xI sc0]) rfl HD rfl rfl ?_
  refine wp_go rfl rfl ?_
  refine wp_go rfl rfl ?_
  refine e_get rfl HS rfl rfl ?_
  refine e_put (fs' := [xR 38, xI fk1, xR 41, xR 42, xI dy1, xI rn0, xI x0, xI wt0, xR 43, xI tc0, xI ru0, xR 44, xR 46, xR 50, xI sc0]) rfl rfl rfl rfl ?_
  refine wp_go rfl rfl ?_
  refine wp_go rfl rfl ?_
  refine e_get rfl HS rfl rfl ?_
  refine e_put (fs' := [xR 38, xI fk1, xR 41, xR 42, xI dy1, xI rn1, xI x0, xI wt0, xR 43, xI tc0, xI ru0, xR 44, xR 46, xR 50, xI sc0]) rfl rfl rfl rfl ?_
  refine wp_go rfl rfl ?_
  refine wp_go rfl rfl ?_
  refine e_get rfl HS rfl rfl ?_
  refine e_put (fs' := [xR 38, xI fk1, xR 41, xR 42, xI dy1, xI rn1, xI x1, xI wt0, xR 43, xI tc0, xI ru0, xR 44, xR 46, xR 50, xI sc0]) rfl rfl rfl rfl ?_
  refine wp_go rfl rfl ?_
  refine wp_go rfl rfl ?_
  refine e_get rfl HS rfl rfl ?_
  refine e_put (fs' := [xR 38, xI fk1, xR 41, xR 42, xI dy1, xI rn1, xI x1, xI wt1, xR 43, xI tc0, xI ru0, xR 44, xR 46, xR 50, xI sc0]) rfl rfl rfl rfl ?_
  refine wp_go rfl rfl ?_
  refine wp_go rfl rfl ?_
  refine e_get rfl HS rfl rfl ?_
  refine e_put (fs' := [xR 38, xI fk1, xR 41, xR 42, xI dy1, xI rn1, xI x1, xI wt1, xR 43, xI tc1, xI ru0, xR 44, xR 46, xR 50, xI sc0]) rfl rfl rfl rfl ?_
  refine wp_go rfl rfl ?_
  refine wp_go rfl rfl ?_
  refine e_get rfl HS rfl rfl ?_
  refine e_put (fs' := [xR 38, xI fk1, xR 41, xR 42, xI dy1, xI rn1, xI x1, xI wt1, xR 43, xI tc1, xI ru1, xR 44, xR 46, xR 50, xI sc0]) rfl rfl rfl rfl ?_
  refine wp_go rfl rfl ?_
  refine wp_go rfl rfl ?_
  refine e_get rfl HS rfl rfl ?_
  refine e_put (fs' := [xR 38, xI fk1, xR 41, xR 42, xI dy1, xI rn1, xI x1, xI wt1, xR 43, xI tc1, xI ru1, xR 44, xR 46, xR 50, xI sc1]) rfl rfl rfl rfl ?_
  refine wp_go rfl rfl ?_
  refine e_get rfl HS rfl rfl ?_
  refine wp_go rfl rfl ?_
  refine wp_go rfl rfl ?_
  refine e_get rfl rfl rfl rfl ?_
  refine wp_go rfl rfl ?_
  refine wp_go rfl rfl ?_
  refine e_copy rfl rfl HSmk HDmk (by omega) ?_
  refine wp_go rfl rfl ?_
  refine e_get rfl HS rfl rfl ?_
  refine wp_go rfl rfl ?_
  refine wp_go rfl rfl ?_
  refine e_get rfl rfl rfl rfl ?_
  refine wp_go rfl rfl ?_
  refine wp_go rfl rfl ?_
  refine e_copy rfl rfl HSsl HDsl (by omega) ?_
  refine wp_go rfl rfl ?_
  refine e_get rfl HS rfl rfl ?_
  refine wp_go rfl rfl ?_
  refine wp_go rfl rfl ?_
  refine e_get rfl rfl rfl rfl ?_
  refine wp_go rfl rfl ?_
  refine wp_go rfl rfl ?_
  refine e_copy rfl rfl HSsn HDsn (by omega) ?_
  refine wp_go rfl rfl ?_
  refine e_istn (L' := [xR 37, xR 23, xI 0]) rfl rfl rfl ?_
  refine l_bl_k (tx0 := tx0) (tx1 := tx1) (fun h2 i2 A B C E F => ?_) 5 0 0 _ rfl (by omega) (by omega) rfl HS ?_ HSx (fun p hp => (HT p hp).kept (Fr.big (l := [37, 41, 42, 43, 44, 45, 46, 47, 48, 49, 50]) (((((((((((Fr.rf.wr rfl).wr rfl).wr rfl).wr rfl).wr rfl).wr rfl).wr rfl).wr rfl).wr rfl).wr rfl).wr rfl) rfl)) Fr.rf trivial
  rotate_left
  · rw [cc_0]
    exact HDx
  refine wp_go rfl rfl ?_
  refine e_get rfl A rfl rfl ?_
  refine wp_go rfl rfl ?_
  refine e_get rfl B rfl rfl ?_
  refine wp_cv rfl rfl rfl ((F.2.2 44 rfl).trans HDst) rfl rfl rfl ?_
  refine c_stLike_k ((F.2.2 44 rfl).trans HDst) ((F.2.2 30 rfl).trans HSst) ((F.2.2 45 rfl).trans HDrs) ((F.2.2 31 rfl).trans HSrs) (fun h3 P1 P2 F3 => ?_)
  skip
  refine wp_go rfl rfl ?_
  refine e_get rfl ((F3.2.2 37 rfl).trans A) rfl rfl ?_
  refine wp_go rfl rfl ?_
  refine e_get rfl ((F3.2.2 23 rfl).trans B) rfl rfl ?_
  refine wp_cv rfl rfl rfl ((F3.2.2 46 rfl).trans ((F.2.2 46 rfl).trans HDd)) rfl rfl rfl ?_
  refine c_dbLike_k ((F3.2.2 46 rfl).trans ((F.2.2 46 rfl).trans HDd)) ((F3.2.2 32 rfl).trans ((F.2.2 32 rfl).trans HSd)) ((F3.2.2 47 rfl).trans ((F.2.2 47 rfl).trans HDdt)) ((F3.2.2 33 rfl).trans ((F.2.2 33 rfl).trans HSdt)) ((F3.2.2 48 rfl).trans ((F.2.2 48 rfl).trans HDow)) ((F3.2.2 34 rfl).trans ((F.2.2 34 rfl).trans HSow)) ((F3.2.2 49 rfl).trans ((F.2.2 49 rfl).trans HDam)) ((F3.2.2 35 rfl).trans ((F.2.2 35 rfl).trans HSam)) (fun h4 R0 R1 R2 R3 F4 => ?_)
  skip
  refine wp_ret rfl rfl ?_
  refine k h4 ((F4.2.2 37 rfl).trans ((F3.2.2 37 rfl).trans A)) ((F4.2.2 43 rfl).trans ((F3.2.2 43 rfl).trans C)) ((F4.2.2 44 rfl).trans P1) R0 ((F4.2.2 41 rfl).trans ((F3.2.2 41 rfl).trans ((F.2.2 41 rfl).trans (congrArg (ar 8) cpy_c)))) ((F4.2.2 42 rfl).trans ((F3.2.2 42 rfl).trans ((F.2.2 42 rfl).trans (congrArg (ar 8) cpy_c)))) ((F4.2.2 50 rfl).trans ((F3.2.2 50 rfl).trans ((F.2.2 50 rfl).trans (congrArg (ar 8) cpy_c)))) ((F4.2.2 45 rfl).trans P2) R1 R2 R3 ?_
  exact ((Fr.tr (l2 := [37, 41, 42, 43, 44, 45, 46, 47, 48, 49, 50]) (l1 := [37, 41, 42, 43, 44, 45, 46, 47, 48, 49, 50]) (((((((((((Fr.rf.wr rfl).wr rfl).wr rfl).wr rfl).wr rfl).wr rfl).wr rfl).wr rfl).wr rfl).wr rfl).wr rfl) (Fr.mono F (nin_sub rfl)) (fun _ z => z)).tr (Fr.mono F3 (nin_sub rfl)) (fun _ z => z)).tr (Fr.mono F4 (nin_sub rfl)) (fun _ z => z)
set_option maxRecDepth 100000 in
theorem c_like_b {d : Nat} {h : hc_H} {Q : List hc_V → hc_H → Prop} {fk0 dy0 rn0 x0 wt0 tc0 ru0 sc0 fk1 dy1 rn1 x1 wt1 tc1 ru1 sc1 fs0 ct0 fs1 ct1 cn0 cn1 : Int} {tx0 tx1 : Nat → Option Nat} {mk0 mk1 sl0 sl1 sn0 sn1 rs0 rs1 dt0 dt1 ow0 ow1 am0 am1 : Nat → Int} (HD : h.2.2 23 = tw fk0 dy0 rn0 x0 wt0 tc0 ru0 sc0) (HS : h.2.2 37 = tw2 fk1 dy1 rn1 x1 wt1 tc1 ru1 sc1) (HDx : h.2.2 29 = .inl (3, 4, .inr tx0)) (HSx : h.2.2 43 = .inl (3, 4, .inr tx1)) (HT : ∀ p, p < 4 → TT h (tx1 p)) (HDst : h.2.2 30 = stp fs0 ct0) (HSst : h.2.2 44 = stp2 fs1 ct1) (HDd : h.2.2 32 = dbt cn0) (HSd : h.2.2 46 = dbt2 cn1) (HDmk : h.2.2 27 = ar 8 mk0) (HSmk : h.2.2 41 = ar 8 mk1) (HDsl : h.2.2 28 = ar 8 sl0) (HSsl : h.2.2 42 = ar 8 sl1) (HDsn : h.2.2 36 = ar 8 sn0) (HSsn : h.2.2 50 = ar 8 sn1) (HDrs : h.2.2 31 = ar 330 rs0) (HSrs : h.2.2 45 = ar 330 rs1) (HDdt : h.2.2 33 = ar 20 dt0) (HSdt : h.2.2 47 = ar 20 dt1) (HDow : h.2.2 34 = ar 20 ow0) (HSow : h.2.2 48 = ar 20 ow1) (HDam : h.2.2 35 = ar 20 am0) (HSam : h.2.2 49 = ar 20 am1) (k : ∀ h2, h2.2.2 23 = tw fk1 dy1 rn1 x1 wt1 tc1 ru1 sc1 → h2.2.2 29 = .inl (3, 4, .inr (cc 4 tx1 tx0)) → h2.2.2 30 = stp fs1 ct1 → h2.2.2 32 = dbt cn1 → h2.2.2 27 = ar 8 (cc 8 mk1 mk0) → h2.2.2 28 = ar 8 (cc 8 sl1 sl0) → h2.2.2 36 = ar 8 (cc 8 sn1 sn0) → h2.2.2 31 = ar 330 (cc 330 rs1 rs0) → h2.2.2 33 = ar 20 (cc 20 dt1 dt0) → h2.2.2 34 = ar 20 (cc 20 ow1 ow0) → h2.2.2 35 = ar 20 (cc 20 am1 am0) → Fr [23, 27, 28, 29, 30, 31, 32, 33, 34, 35, 36] h h2 → Q [] h2) : hc_wp (d + 2) mX7_becomeLike 0 [xR 23, xR 37, none] [] h Q := by
  refine wp_go rfl rfl ?_
  refine wp_go rfl rfl ?_
  refine e_get rfl HS rfl rfl ?_
  refine e_put (fs' := [xR 24, xI fk1, xR 27, xR 28, xI dy0, xI rn0, xI x0, xI wt0, xR 29, xI tc0, xI ru0, xR 30, xR 32, xR 36, xI sc0]) rfl HD rfl rfl ?_
  refine wp_go rfl rfl ?_
  refine wp_go rfl rfl ?_
  refine e_get rfl HS rfl rfl ?_
  refine e_put (fs' := [xR 24, xI fk1, xR 27, xR 28, xI dy1, xI rn0, xI x0, xI wt0, xR 29, xI tc0, xI ru0, xR 30, xR 32, xR 36, xI sc0]) rfl rfl rfl rfl ?_
  refine wp_go rfl rfl ?_
  refine wp_go rfl rfl ?_
  refine e_get rfl HS rfl rfl ?_
  refine e_put (fs' := [xR 24, xI fk1, xR 27, xR 28, xI dy1, xI rn1, xI x0, xI wt0, xR 29, xI tc0, xI ru0, xR 30, xR 32, xR 36, xI sc0]) rfl rfl rfl rfl ?_
  refine wp_go rfl rfl ?_
  refine wp_go rfl rfl ?_
  refine e_get rfl HS rfl rfl ?_
  refine e_put (fs' := [xR 24, xI fk1, xR 27, xR 28, xI dy1, xI rn1, xI x1, xI wt0, xR 29, xI tc0, xI ru0, xR 30, xR 32, xR 36, xI sc0]) rfl rfl rfl rfl ?_
  refine wp_go rfl rfl ?_
  refine wp_go rfl rfl ?_
  refine e_get rfl HS rfl rfl ?_
  refine e_put (fs' := [xR 24, xI fk1, xR 27, xR 28, xI dy1, xI rn1, xI x1, xI wt1, xR 29, xI tc0, xI ru0, xR 30, xR 32, xR 36, xI sc0]) rfl rfl rfl rfl ?_
  refine wp_go rfl rfl ?_
  refine wp_go rfl rfl ?_
  refine e_get rfl HS rfl rfl ?_
  refine e_put (fs' := [xR 24, xI fk1, xR 27, xR 28, xI dy1, xI rn1, xI x1, xI wt1, xR 29, xI tc1, xI ru0, xR 30, xR 32, xR 36, xI sc0]) rfl rfl rfl rfl ?_
  refine wp_go rfl rfl ?_
  refine wp_go rfl rfl ?_
  refine e_get rfl HS rfl rfl ?_
  refine e_put (fs' := [xR 24, xI fk1, xR 27, xR 28, xI dy1, xI rn1, xI x1, xI wt1, xR 29, xI tc1, xI ru1, xR 30, xR 32, xR 36, xI sc0]) rfl rfl rfl rfl ?_
  refine wp_go rfl rfl ?_
  refine wp_go rfl rfl ?_
  refine e_get rfl HS rfl rfl ?_
  refine e_put (fs' := [xR 24, xI fk1, xR 27, xR 28, xI dy1, xI rn1, xI x1, xI wt1, xR 29, xI tc1, xI ru1, xR 30, xR 32, xR 36, xI sc1]) rfl rfl rfl rfl ?_
  refine wp_go rfl rfl ?_
  refine e_get rfl HS rfl rfl ?_
  refine wp_go rfl rfl ?_
  refine wp_go rfl rfl ?_
  refine e_get rfl rfl rfl rfl ?_
  refine wp_go rfl rfl ?_
  refine wp_go rfl rfl ?_
  refine e_copy rfl rfl HSmk HDmk (by omega) ?_
  refine wp_go rfl rfl ?_
  refine e_get rfl HS rfl rfl ?_
  refine wp_go rfl rfl ?_
  refine wp_go rfl rfl ?_
  refine e_get rfl rfl rfl rfl ?_
  refine wp_go rfl rfl ?_
  refine wp_go rfl rfl ?_
  refine e_copy rfl rfl HSsl HDsl (by omega) ?_
  refine wp_go rfl rfl ?_
  refine e_get rfl HS rfl rfl ?_
  refine wp_go rfl rfl ?_
  refine wp_go rfl rfl ?_
  refine e_get rfl rfl rfl rfl ?_
  refine wp_go rfl rfl ?_
  refine wp_go rfl rfl ?_
  refine e_copy rfl rfl HSsn HDsn (by omega) ?_
  refine wp_go rfl rfl ?_
  refine e_istn (L' := [xR 23, xR 37, xI 0]) rfl rfl rfl ?_
  refine l_bl_b (tx0 := tx0) (tx1 := tx1) (fun h2 i2 A B C E F => ?_) 5 0 0 _ rfl (by omega) (by omega) rfl HS ?_ HSx (fun p hp => (HT p hp).kept (Fr.big (l := [23, 27, 28, 29, 30, 31, 32, 33, 34, 35, 36]) (((((((((((Fr.rf.wr rfl).wr rfl).wr rfl).wr rfl).wr rfl).wr rfl).wr rfl).wr rfl).wr rfl).wr rfl).wr rfl) rfl)) Fr.rf trivial
  rotate_left
  · rw [cc_0]
    exact HDx
  refine wp_go rfl rfl ?_
  refine e_get rfl A rfl rfl ?_
  refine wp_go rfl rfl ?_
  refine e_get rfl B rfl rfl ?_
  refine wp_cv rfl rfl rfl ((F.2.2 30 rfl).trans HDst) rfl rfl rfl ?_
  refine c_stLike_b ((F.2.2 30 rfl).trans HDst) ((F.2.2 44 rfl).trans HSst) ((F.2.2 31 rfl).trans HDrs) ((F.2.2 45 rfl).trans HSrs) (fun h3 P1 P2 F3 => ?_)
  skip
  refine wp_go rfl rfl ?_
  refine e_get rfl ((F3.2.2 23 rfl).trans A) rfl rfl ?_
  refine wp_go rfl rfl ?_
  refine e_get rfl ((F3.2.2 37 rfl).trans B) rfl rfl ?_
  refine wp_cv rfl rfl rfl ((F3.2.2 32 rfl).trans ((F.2.2 32 rfl).trans HDd)) rfl rfl rfl ?_
  refine c_dbLike_b ((F3.2.2 32 rfl).trans ((F.2.2 32 rfl).trans HDd)) ((F3.2.2 46 rfl).trans ((F.2.2 46 rfl).trans HSd)) ((F3.2.2 33 rfl).trans ((F.2.2 33 rfl).trans HDdt)) ((F3.2.2 47 rfl).trans ((F.2.2 47 rfl).trans HSdt)) ((F3.2.2 34 rfl).trans ((F.2.2 34 rfl).trans HDow)) ((F3.2.2 48 rfl).trans ((F.2.2 48 rfl).trans HSow)) ((F3.2.2 35 rfl).trans ((F.2.2 35 rfl).trans HDam)) ((F3.2.2 49 rfl).trans ((F.2.2 49 rfl).trans HSam)) (fun h4 R0 R1 R2 R3 F4 => ?_)
  skip
  refine wp_ret rfl rfl ?_
  refine k h4 ((F4.2.2 23 rfl).trans ((F3.2.2 23 rfl).trans A)) ((F4.2.2 29 rfl).trans ((F3.2.2 29 rfl).trans C)) ((F4.2.2 30 rfl).trans P1) R0 ((F4.2.2 27 rfl).trans ((F3.2.2 27 rfl).trans ((F.2.2 27 rfl).trans (congrArg (ar 8) cpy_c)))) ((F4.2.2 28 rfl).trans ((F3.2.2 28 rfl).trans ((F.2.2 28 rfl).trans (congrArg (ar 8) cpy_c)))) ((F4.2.2 36 rfl).trans ((F3.2.2 36 rfl).trans ((F.2.2 36 rfl).trans (congrArg (ar 8) cpy_c)))) ((F4.2.2 31 rfl).trans P2) R1 R2 R3 ?_
  exact ((Fr.tr (l2 := [23, 27, 28, 29, 30, 31, 32, 33, 34, 35, 36]) (l1 := [23, 27, 28, 29, 30, 31, 32, 33, 34, 35, 36]) (((((((((((Fr.rf.wr rfl).wr rfl).wr rfl).wr rfl).wr rfl).wr rfl).wr rfl).wr rfl).wr rfl).wr rfl).wr rfl) (Fr.mono F (nin_sub rfl)) (fun _ z => z)).tr (Fr.mono F3 (nin_sub rfl)) (fun _ z => z)).tr (Fr.mono F4 (nin_sub rfl)) (fun _ z => z)
