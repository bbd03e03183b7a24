set_option maxRecDepth 100000 in
theorem ok_X10_marry_0 : hc_okl yX10_marry.cls cX10_marry 1 ((kX10_marry.drop 0).take 60) 0 = true := by decide +kernel
set_option maxRecDepth 100000 in
theorem ok_X10_marry_60 : hc_okl yX10_marry.cls cX10_marry 1 ((kX10_marry.drop 60).take 60) 60 = true := by decide +kernel
set_option maxRecDepth 100000 in
theorem ok_X10_marry_120 : hc_okl yX10_marry.cls cX10_marry 1 ((kX10_marry.drop 120).take 60) 120 = true := by decide +kernel
set_option maxRecDepth 100000 in
theorem ok_X10_marry_180 : hc_okl yX10_marry.cls cX10_marry 1 ((kX10_marry.drop 180).take 60) 180 = true := by decide +kernel
set_option maxRecDepth 100000 in
theorem ok_X10_marry_240 : hc_okl yX10_marry.cls cX10_marry 1 ((kX10_marry.drop 240).take 60) 240 = true := by decide +kernel
set_option maxRecDepth 100000 in
theorem ok_X10_marry : hc_all mX10_marry := by
  intro n e h
  have hl : n < 244 := hc_gt_lt kX10_marry n e h
  rcases Nat.lt_or_ge n 60 with q0 | q0
  · exact hc_okl_part kX10_marry 0 60 ok_X10_marry_0 n (by omega) (by omega) e h
  rcases Nat.lt_or_ge n 120 with q1 | q1
  · exact hc_okl_part kX10_marry 60 60 ok_X10_marry_60 n (by omega) (by omega) e h
  rcases Nat.lt_or_ge n 180 with q2 | q2
  · exact hc_okl_part kX10_marry 120 60 ok_X10_marry_120 n (by omega) (by omega) e h
  rcases Nat.lt_or_ge n 240 with q3 | q3
  · exact hc_okl_part kX10_marry 180 60 ok_X10_marry_180 n (by omega) (by omega) e h
  exact hc_okl_part kX10_marry 240 60 ok_X10_marry_240 n (by omega) (by omega) e h
set_option maxRecDepth 100000 in
theorem ok_X10_married_0 : hc_okl yX10_married.cls cX10_married 1 ((kX10_married.drop 0).take 60) 0 = true := by decide +kernel
set_option maxRecDepth 100000 in
theorem ok_X10_married : hc_all mX10_married := by
  intro n e h
  have hl : n < 37 := hc_gt_lt kX10_married n e h
  exact hc_okl_part kX10_married 0 60 ok_X10_married_0 n (by omega) (by omega) e h
set_option maxRecDepth 100000 in
theorem ok_X10_bell_0 : hc_okl yX10_bell.cls cX10_bell 1 ((kX10_bell.drop 0).take 60) 0 = true := by decide +kernel
set_option maxRecDepth 100000 in
theorem ok_X10_bell_60 : hc_okl yX10_bell.cls cX10_bell 1 ((kX10_bell.drop 60).take 60) 60 = true := by decide +kernel
set_option maxRecDepth 100000 in
theorem ok_X10_bell_120 : hc_okl yX10_bell.cls cX10_bell 1 ((kX10_bell.drop 120).take 60) 120 = true := by decide +kernel
set_option maxRecDepth 100000 in
theorem ok_X10_bell_180 : hc_okl yX10_bell.cls cX10_bell 1 ((kX10_bell.drop 180).take 60) 180 = true := by decide +kernel
set_option maxRecDepth 100000 in
theorem ok_X10_bell : hc_all mX10_bell := by
  intro n e h
  have hl : n < 192 := hc_gt_lt kX10_bell n e h
  rcases Nat.lt_or_ge n 60 with q0 | q0
  · exact hc_okl_part kX10_bell 0 60 ok_X10_bell_0 n (by omega) (by omega) e h
  rcases Nat.lt_or_ge n 120 with q1 | q1
  · exact hc_okl_part kX10_bell 60 60 ok_X10_bell_60 n (by omega) (by omega) e h
  rcases Nat.lt_or_ge n 180 with q2 | q2
  · exact hc_okl_part kX10_bell 120 60 ok_X10_bell_120 n (by omega) (by omega) e h
  exact hc_okl_part kX10_bell 180 60 ok_X10_bell_180 n (by omega) (by omega) e h
set_option maxRecDepth 100000 in
theorem ok_X10_costOf_0 : hc_okl yX10_costOf.cls cX10_costOf 1 ((kX10_costOf.drop 0).take 60) 0 = true := by decide +kernel
set_option maxRecDepth 100000 in
theorem ok_X10_costOf : hc_all mX10_costOf := by
  intro n e h
  have hl : n < 55 := hc_gt_lt kX10_costOf n e h
  exact hc_okl_part kX10_costOf 0 60 ok_X10_costOf_0 n (by omega) (by omega) e h
set_option maxRecDepth 100000 in
theorem ok_X10_cost_0 : hc_okl yX10_cost.cls cX10_cost 1 ((kX10_cost.drop 0).take 60) 0 = true := by decide +kernel
set_option maxRecDepth 100000 in
theorem ok_X10_cost : hc_all mX10_cost := by
  intro n e h
  have hl : n < 57 := hc_gt_lt kX10_cost n e h
  exact hc_okl_part kX10_cost 0 60 ok_X10_cost_0 n (by omega) (by omega) e h
set_option maxRecDepth 100000 in
theorem ok_X10_best_0 : hc_okl yX10_best.cls cX10_best 1 ((kX10_best.drop 0).take 60) 0 = true := by decide +kernel
set_option maxRecDepth 100000 in
theorem ok_X10_best_60 : hc_okl yX10_best.cls cX10_best 1 ((kX10_best.drop 60).take 60) 60 = true := by decide +kernel
set_option maxRecDepth 100000 in
theorem ok_X10_best : hc_all mX10_best := by
  intro n e h
  have hl : n < 105 := hc_gt_lt kX10_best n e h
  rcases Nat.lt_or_ge n 60 with q0 | q0
  · exact hc_okl_part kX10_best 0 60 ok_X10_best_0 n (by omega) (by omega) e h
  exact hc_okl_part kX10_best 60 60 ok_X10_best_60 n (by omega) (by omega) e h
set_option maxRecDepth 100000 in
theorem ok_X10_seen_0 : hc_okl yX10_seen.cls cX10_seen 1 ((kX10_seen.drop 0).take 60) 0 = true := by decide +kernel
set_option maxRecDepth 100000 in
theorem ok_X10_seen_60 : hc_okl yX10_seen.cls cX10_seen 1 ((kX10_seen.drop 60).take 60) 60 = true := by decide +kernel
set_option maxRecDepth 100000 in
theorem ok_X10_seen : hc_all mX10_seen := by
  intro n e h
  have hl : n < 75 := hc_gt_lt kX10_seen n e h
  rcases Nat.lt_or_ge n 60 with q0 | q0
  · exact hc_okl_part kX10_seen 0 60 ok_X10_seen_0 n (by omega) (by omega) e h
  exact hc_okl_part kX10_seen 60 60 ok_X10_seen_60 n (by omega) (by omega) e h
set_option maxRecDepth 100000 in
theorem ok_X10_canBe_0 : hc_okl yX10_canBe.cls cX10_canBe 1 ((kX10_canBe.drop 0).take 60) 0 = true := by decide +kernel
set_option maxRecDepth 100000 in
theorem ok_X10_canBe_60 : hc_okl yX10_canBe.cls cX10_canBe 1 ((kX10_canBe.drop 60).take 60) 60 = true := by decide +kernel
set_option maxRecDepth 100000 in
theorem ok_X10_canBe : hc_all mX10_canBe := by
  intro n e h
  have hl : n < 78 := hc_gt_lt kX10_canBe n e h
  rcases Nat.lt_or_ge n 60 with q0 | q0
  · exact hc_okl_part kX10_canBe 0 60 ok_X10_canBe_0 n (by omega) (by omega) e h
  exact hc_okl_part kX10_canBe 60 60 ok_X10_canBe_60 n (by omega) (by omega) e h
set_option maxRecDepth 100000 in
theorem ok_X10_rubbed_0 : hc_okl yX10_rubbed.cls cX10_rubbed 1 ((kX10_rubbed.drop 0).take 60) 0 = true := by decide +kernel
set_option maxRecDepth 100000 in
theorem ok_X10_rubbed_60 : hc_okl yX10_rubbed.cls cX10_rubbed 1 ((kX10_rubbed.drop 60).take 60) 60 = true := by decide +kernel
set_option maxRecDepth 100000 in
theorem ok_X10_rubbed : hc_all mX10_rubbed := by
  intro n e h
  have hl : n < 75 := hc_gt_lt kX10_rubbed n e h
  rcases Nat.lt_or_ge n 60 with q0 | q0
  · exact hc_okl_part kX10_rubbed 0 60 ok_X10_rubbed_0 n (by omega) (by omega) e h
  exact hc_okl_part kX10_rubbed 60 60 ok_X10_rubbed_60 n (by omega) (by omega) e h
set_option maxRecDepth 100000 in
theorem ok_X10_image_0 : hc_okl yX10_image.cls cX10_image 1 ((kX10_image.drop 0).take 60) 0 = true := by decide +kernel
set_option maxRecDepth 100000 in
theorem ok_X10_image : hc_all mX10_image := by
  intro n e h
  have hl : n < 18 := hc_gt_lt kX10_image n e h
  exact hc_okl_part kX10_image 0 60 ok_X10_image_0 n (by omega) (by omega) e h
set_option maxRecDepth 100000 in
theorem ok_X10_back_0 : hc_okl yX10_back.cls cX10_back 1 ((kX10_back.drop 0).take 60) 0 = true := by decide +kernel
set_option maxRecDepth 100000 in
theorem ok_X10_back : hc_all mX10_back := by
  intro n e h
  have hl : n < 18 := hc_gt_lt kX10_back n e h
  exact hc_okl_part kX10_back 0 60 ok_X10_back_0 n (by omega) (by omega) e h
set_option maxRecDepth 100000 in
theorem ok_X10_about_0 : hc_okl yX10_about.cls cX10_about 1 ((kX10_about.drop 0).take 60) 0 = true := by decide +kernel
set_option maxRecDepth 100000 in
theorem ok_X10_about_60 : hc_okl yX10_about.cls cX10_about 1 ((kX10_about.drop 60).take 60) 60 = true := by decide +kernel
set_option maxRecDepth 100000 in
theorem ok_X10_about : hc_all mX10_about := by
  intro n e h
  have hl : n < 101 := hc_gt_lt kX10_about n e h
  rcases Nat.lt_or_ge n 60 with q0 | q0
  · exact hc_okl_part kX10_about 0 60 ok_X10_about_0 n (by omega) (by omega) e h
  exact hc_okl_part kX10_about 60 60 ok_X10_about_60 n (by omega) (by omega) e h
set_option maxRecDepth 100000 in
theorem ok_J6_numberOfTrailingZeros_0f7a4_0 : hc_okl yJ6_numberOfTrailingZeros_0f7a4.cls cJ6_numberOfTrailingZeros_0f7a4 0 ((kJ6_numberOfTrailingZeros_0f7a4.drop 0).take 60) 0 = true := by decide +kernel
set_option maxRecDepth 100000 in
theorem ok_J6_numberOfTrailingZeros_0f7a4_60 : hc_okl yJ6_numberOfTrailingZeros_0f7a4.cls cJ6_numberOfTrailingZeros_0f7a4 0 ((kJ6_numberOfTrailingZeros_0f7a4.drop 60).take 60) 60 = true := by decide +kernel
set_option maxRecDepth 100000 in
theorem ok_J6_numberOfTrailingZeros_0f7a4 : hc_all mJ6_numberOfTrailingZeros_0f7a4 := by
  intro n e h
  have hl : n < 80 := hc_gt_lt kJ6_numberOfTrailingZeros_0f7a4 n e h
  rcases Nat.lt_or_ge n 60 with q0 | q0
  · exact hc_okl_part kJ6_numberOfTrailingZeros_0f7a4 0 60 ok_J6_numberOfTrailingZeros_0f7a4_0 n (by omega) (by omega) e h
  exact hc_okl_part kJ6_numberOfTrailingZeros_0f7a4 60 60 ok_J6_numberOfTrailingZeros_0f7a4_60 n (by omega) (by omega) e h
set_option maxRecDepth 100000 in
theorem ok_J6_bitCount_0f7a4_0 : hc_okl yJ6_bitCount_0f7a4.cls cJ6_bitCount_0f7a4 0 ((kJ6_bitCount_0f7a4.drop 0).take 60) 0 = true := by decide +kernel
set_option maxRecDepth 100000 in
theorem ok_J6_bitCount_0f7a4 : hc_all mJ6_bitCount_0f7a4 := by
  intro n e h
  have hl : n < 53 := hc_gt_lt kJ6_bitCount_0f7a4 n e h
  exact hc_okl_part kJ6_bitCount_0f7a4 0 60 ok_J6_bitCount_0f7a4_0 n (by omega) (by omega) e h
set_option maxRecDepth 100000 in
theorem ok_J7_copyOf_59c91_0 : hc_okl yJ7_copyOf_59c91.cls cJ7_copyOf_59c91 0 ((kJ7_copyOf_59c91.drop 0).take 60) 0 = true := by decide +kernel
set_option maxRecDepth 100000 in
theorem ok_J7_copyOf_59c91 : hc_all mJ7_copyOf_59c91 := by
  intro n e h
  have hl : n < 33 := hc_gt_lt kJ7_copyOf_59c91 n e h
  exact hc_okl_part kJ7_copyOf_59c91 0 60 ok_J7_copyOf_59c91_0 n (by omega) (by omega) e h
set_option maxRecDepth 100000 in
theorem ok_L_law_0 : hc_okl yL_law.cls cL_law 0 ((kL_law.drop 0).take 60) 0 = true := by decide +kernel
set_option maxRecDepth 100000 in
theorem ok_L_law_60 : hc_okl yL_law.cls cL_law 0 ((kL_law.drop 60).take 60) 60 = true := by decide +kernel
set_option maxRecDepth 100000 in
theorem ok_L_law_120 : hc_okl yL_law.cls cL_law 0 ((kL_law.drop 120).take 60) 120 = true := by decide +kernel
set_option maxRecDepth 100000 in
theorem ok_L_law_180 : hc_okl yL_law.cls cL_law 0 ((kL_law.drop 180).take 60) 180 = true := by decide +kernel
set_option maxRecDepth 100000 in
theorem ok_L_law_240 : hc_okl yL_law.cls cL_law 0 ((kL_law.drop 240).take 60) 240 = true := by decide +kernel
set_option maxRecDepth 100000 in
theorem ok_L_law_300 : hc_okl yL_law.cls cL_law 0 ((kL_law.drop 300).take 60) 300 = true := by decide +kernel
set_option maxRecDepth 100000 in
theorem ok_L_law_360 : hc_okl yL_law.cls cL_law 0 ((kL_law.drop 360).take 60) 360 = true := by decide +kernel
set_option maxRecDepth 100000 in
theorem ok_L_law_420 : hc_okl yL_law.cls cL_law 0 ((kL_law.drop 420).take 60) 420 = true := by decide +kernel
set_option maxRecDepth 100000 in
theorem ok_L_law_480 : hc_okl yL_law.cls cL_law 0 ((kL_law.drop 480).take 60) 480 = true := by decide +kernel
set_option maxRecDepth 100000 in
theorem ok_L_law_540 : hc_okl yL_law.cls cL_law 0 ((kL_law.drop 540).take 60) 540 = true := by decide +kernel
set_option maxRecDepth 100000 in
theorem ok_L_law_600 : hc_okl yL_law.cls cL_law 0 ((kL_law.drop 600).take 60) 600 = true := by decide +kernel
set_option maxRecDepth 100000 in
theorem ok_L_law_660 : hc_okl yL_law.cls cL_law 0 ((kL_law.drop 660).take 60) 660 = true := by decide +kernel
set_option maxRecDepth 100000 in
theorem ok_L_law_720 : hc_okl yL_law.cls cL_law 0 ((kL_law.drop 720).take 60) 720 = true := by decide +kernel
set_option maxRecDepth 100000 in
theorem ok_L_law_780 : hc_okl yL_law.cls cL_law 0 ((kL_law.drop 780).take 60) 780 = true := by decide +kernel
set_option maxRecDepth 100000 in
theorem ok_L_law_840 : hc_okl yL_law.cls cL_law 0 ((kL_law.drop 840).take 60) 840 = true := by decide +kernel
set_option maxRecDepth 100000 in
theorem ok_L_law_900 : hc_okl yL_law.cls cL_law 0 ((kL_law.drop 900).take 60) 900 = true := by decide +kernel
set_option maxRecDepth 100000 in
theorem ok_L_law : hc_all mL_law := by
  intro n e h
  have hl : n < 913 := hc_gt_lt kL_law n e h
  rcases Nat.lt_or_ge n 60 with q0 | q0
  · exact hc_okl_part kL_law 0 60 ok_L_law_0 n (by omega) (by omega) e h
  rcases Nat.lt_or_ge n 120 with q1 | q1
  · exact hc_okl_part kL_law 60 60 ok_L_law_60 n (by omega) (by omega) e h
  rcases Nat.lt_or_ge n 180 with q2 | q2
  · exact hc_okl_part kL_law 120 60 ok_L_law_120 n (by omega) (by omega) e h
  rcases Nat.lt_or_ge n 240 with q3 | q3
  · exact hc_okl_part kL_law 180 60 ok_L_law_180 n (by omega) (by omega) e h
  rcases Nat.lt_or_ge n 300 with q4 | q4
  · exact hc_okl_part kL_law 240 60 ok_L_law_240 n (by omega) (by omega) e h
  rcases Nat.lt_or_ge n 360 with q5 | q5
  · exact hc_okl_part kL_law 300 60 ok_L_law_300 n (by omega) (by omega) e h
  rcases Nat.lt_or_ge n 420 with q6 | q6
  · exact hc_okl_part kL_law 360 60 ok_L_law_360 n (by omega) (by omega) e h
  rcases Nat.lt_or_ge n 480 with q7 | q7
  · exact hc_okl_part kL_law 420 60 ok_L_law_420 n (by omega) (by omega) e h
  rcases Nat.lt_or_ge n 540 with q8 | q8
  · exact hc_okl_part kL_law 480 60 ok_L_law_480 n (by omega) (by omega) e h
  rcases Nat.lt_or_ge n 600 with q9 | q9
  · exact hc_okl_part kL_law 540 60 ok_L_law_540 n (by omega) (by omega) e h
  rcases Nat.lt_or_ge n 660 with q10 | q10
  · exact hc_okl_part kL_law 600 60 ok_L_law_600 n (by omega) (by omega) e h
  rcases Nat.lt_or_ge n 720 with q11 | q11
  · exact hc_okl_part kL_law 660 60 ok_L_law_660 n (by omega) (by omega) e h
  rcases Nat.lt_or_ge n 780 with q12 | q12
  · exact hc_okl_part kL_law 720 60 ok_L_law_720 n (by omega) (by omega) e h
  rcases Nat.lt_or_ge n 840 with q13 | q13
  · exact hc_okl_part kL_law 780 60 ok_L_law_780 n (by omega) (by omega) e h
  rcases Nat.lt_or_ge n 900 with q14 | q14
  · exact hc_okl_part kL_law 840 60 ok_L_law_840 n (by omega) (by omega) e h
  exact hc_okl_part kL_law 900 60 ok_L_law_900 n (by omega) (by omega) e h
