set_option maxRecDepth 100000 in
theorem ok_X10_compareOf_0 : hc_okl yX10_compareOf.cls cX10_compareOf 1 ((kX10_compareOf.drop 0).take 60) 0 = true := by decide +kernel
set_option maxRecDepth 100000 in
theorem ok_X10_compareOf_60 : hc_okl yX10_compareOf.cls cX10_compareOf 1 ((kX10_compareOf.drop 60).take 60) 60 = true := by decide +kernel
set_option maxRecDepth 100000 in
theorem ok_X10_compareOf : hc_all mX10_compareOf := by
  intro n e h
  have hl : n < 84 := hc_gt_lt kX10_compareOf n e h
  rcases Nat.lt_or_ge n 60 with q0 | q0
  · exact hc_okl_part kX10_compareOf 0 60 ok_X10_compareOf_0 n (by omega) (by omega) e h
  exact hc_okl_part kX10_compareOf 60 60 ok_X10_compareOf_60 n (by omega) (by omega) e h
set_option maxRecDepth 100000 in
theorem ok_X10_betweenOf_0 : hc_okl yX10_betweenOf.cls cX10_betweenOf 1 ((kX10_betweenOf.drop 0).take 60) 0 = true := by decide +kernel
set_option maxRecDepth 100000 in
theorem ok_X10_betweenOf_60 : hc_okl yX10_betweenOf.cls cX10_betweenOf 1 ((kX10_betweenOf.drop 60).take 60) 60 = true := by decide +kernel
set_option maxRecDepth 100000 in
theorem ok_X10_betweenOf : hc_all mX10_betweenOf := by
  intro n e h
  have hl : n < 116 := hc_gt_lt kX10_betweenOf n e h
  rcases Nat.lt_or_ge n 60 with q0 | q0
  · exact hc_okl_part kX10_betweenOf 0 60 ok_X10_betweenOf_0 n (by omega) (by omega) e h
  exact hc_okl_part kX10_betweenOf 60 60 ok_X10_betweenOf_60 n (by omega) (by omega) e h
set_option maxRecDepth 100000 in
theorem ok_X10_behindOne_0 : hc_okl yX10_behindOne.cls cX10_behindOne 1 ((kX10_behindOne.drop 0).take 60) 0 = true := by decide +kernel
set_option maxRecDepth 100000 in
theorem ok_X10_behindOne_60 : hc_okl yX10_behindOne.cls cX10_behindOne 1 ((kX10_behindOne.drop 60).take 60) 60 = true := by decide +kernel
set_option maxRecDepth 100000 in
theorem ok_X10_behindOne_120 : hc_okl yX10_behindOne.cls cX10_behindOne 1 ((kX10_behindOne.drop 120).take 60) 120 = true := by decide +kernel
set_option maxRecDepth 100000 in
theorem ok_X10_behindOne_180 : hc_okl yX10_behindOne.cls cX10_behindOne 1 ((kX10_behindOne.drop 180).take 60) 180 = true := by decide +kernel
set_option maxRecDepth 100000 in
theorem ok_X10_behindOne : hc_all mX10_behindOne := by
  intro n e h
  have hl : n < 207 := hc_gt_lt kX10_behindOne n e h
  rcases Nat.lt_or_ge n 60 with q0 | q0
  · exact hc_okl_part kX10_behindOne 0 60 ok_X10_behindOne_0 n (by omega) (by omega) e h
  rcases Nat.lt_or_ge n 120 with q1 | q1
  · exact hc_okl_part kX10_behindOne 60 60 ok_X10_behindOne_60 n (by omega) (by omega) e h
  rcases Nat.lt_or_ge n 180 with q2 | q2
  · exact hc_okl_part kX10_behindOne 120 60 ok_X10_behindOne_120 n (by omega) (by omega) e h
  exact hc_okl_part kX10_behindOne 180 60 ok_X10_behindOne_180 n (by omega) (by omega) e h
set_option maxRecDepth 100000 in
theorem ok_X10_parsed_0 : hc_okl yX10_parsed.cls cX10_parsed 1 ((kX10_parsed.drop 0).take 60) 0 = true := by decide +kernel
set_option maxRecDepth 100000 in
theorem ok_X10_parsed_60 : hc_okl yX10_parsed.cls cX10_parsed 1 ((kX10_parsed.drop 60).take 60) 60 = true := by decide +kernel
set_option maxRecDepth 100000 in
theorem ok_X10_parsed : hc_all mX10_parsed := by
  intro n e h
  have hl : n < 74 := hc_gt_lt kX10_parsed n e h
  rcases Nat.lt_or_ge n 60 with q0 | q0
  · exact hc_okl_part kX10_parsed 0 60 ok_X10_parsed_0 n (by omega) (by omega) e h
  exact hc_okl_part kX10_parsed 60 60 ok_X10_parsed_60 n (by omega) (by omega) e h
set_option maxRecDepth 100000 in
theorem ok_X10_nameOf_0 : hc_okl yX10_nameOf.cls cX10_nameOf 1 ((kX10_nameOf.drop 0).take 60) 0 = true := by decide +kernel
set_option maxRecDepth 100000 in
theorem ok_X10_nameOf_60 : hc_okl yX10_nameOf.cls cX10_nameOf 1 ((kX10_nameOf.drop 60).take 60) 60 = true := by decide +kernel
set_option maxRecDepth 100000 in
theorem ok_X10_nameOf_120 : hc_okl yX10_nameOf.cls cX10_nameOf 1 ((kX10_nameOf.drop 120).take 60) 120 = true := by decide +kernel
set_option maxRecDepth 100000 in
theorem ok_X10_nameOf : hc_all mX10_nameOf := by
  intro n e h
  have hl : n < 173 := hc_gt_lt kX10_nameOf n e h
  rcases Nat.lt_or_ge n 60 with q0 | q0
  · exact hc_okl_part kX10_nameOf 0 60 ok_X10_nameOf_0 n (by omega) (by omega) e h
  rcases Nat.lt_or_ge n 120 with q1 | q1
  · exact hc_okl_part kX10_nameOf 60 60 ok_X10_nameOf_60 n (by omega) (by omega) e h
  exact hc_okl_part kX10_nameOf 120 60 ok_X10_nameOf_120 n (by omega) (by omega) e h
set_option maxRecDepth 100000 in
theorem ok_X10_isOf_0 : hc_okl yX10_isOf.cls cX10_isOf 1 ((kX10_isOf.drop 0).take 60) 0 = true := by decide +kernel
set_option maxRecDepth 100000 in
theorem ok_X10_isOf : hc_all mX10_isOf := by
  intro n e h
  have hl : n < 34 := hc_gt_lt kX10_isOf n e h
  exact hc_okl_part kX10_isOf 0 60 ok_X10_isOf_0 n (by omega) (by omega) e h
set_option maxRecDepth 100000 in
theorem ok_X10_sortOf_0 : hc_okl yX10_sortOf.cls cX10_sortOf 1 ((kX10_sortOf.drop 0).take 60) 0 = true := by decide +kernel
set_option maxRecDepth 100000 in
theorem ok_X10_sortOf_60 : hc_okl yX10_sortOf.cls cX10_sortOf 1 ((kX10_sortOf.drop 60).take 60) 60 = true := by decide +kernel
set_option maxRecDepth 100000 in
theorem ok_X10_sortOf : hc_all mX10_sortOf := by
  intro n e h
  have hl : n < 106 := hc_gt_lt kX10_sortOf n e h
  rcases Nat.lt_or_ge n 60 with q0 | q0
  · exact hc_okl_part kX10_sortOf 0 60 ok_X10_sortOf_0 n (by omega) (by omega) e h
  exact hc_okl_part kX10_sortOf 60 60 ok_X10_sortOf_60 n (by omega) (by omega) e h
set_option maxRecDepth 100000 in
theorem ok_X10_figure_0 : hc_okl yX10_figure.cls cX10_figure 1 ((kX10_figure.drop 0).take 60) 0 = true := by decide +kernel
set_option maxRecDepth 100000 in
theorem ok_X10_figure : hc_all mX10_figure := by
  intro n e h
  have hl : n < 38 := hc_gt_lt kX10_figure n e h
  exact hc_okl_part kX10_figure 0 60 ok_X10_figure_0 n (by omega) (by omega) e h
set_option maxRecDepth 100000 in
theorem ok_X10_isTo_0 : hc_okl yX10_isTo.cls cX10_isTo 1 ((kX10_isTo.drop 0).take 60) 0 = true := by decide +kernel
set_option maxRecDepth 100000 in
theorem ok_X10_isTo : hc_all mX10_isTo := by
  intro n e h
  have hl : n < 25 := hc_gt_lt kX10_isTo n e h
  exact hc_okl_part kX10_isTo 0 60 ok_X10_isTo_0 n (by omega) (by omega) e h
set_option maxRecDepth 100000 in
theorem ok_X10_person_0 : hc_okl yX10_person.cls cX10_person 1 ((kX10_person.drop 0).take 60) 0 = true := by decide +kernel
set_option maxRecDepth 100000 in
theorem ok_X10_person : hc_all mX10_person := by
  intro n e h
  have hl : n < 18 := hc_gt_lt kX10_person n e h
  exact hc_okl_part kX10_person 0 60 ok_X10_person_0 n (by omega) (by omega) e h
set_option maxRecDepth 100000 in
theorem ok_X10_payment_0 : hc_okl yX10_payment.cls cX10_payment 1 ((kX10_payment.drop 0).take 60) 0 = true := by decide +kernel
set_option maxRecDepth 100000 in
theorem ok_X10_payment_60 : hc_okl yX10_payment.cls cX10_payment 1 ((kX10_payment.drop 60).take 60) 60 = true := by decide +kernel
set_option maxRecDepth 100000 in
theorem ok_X10_payment_120 : hc_okl yX10_payment.cls cX10_payment 1 ((kX10_payment.drop 120).take 60) 120 = true := by decide +kernel
set_option maxRecDepth 100000 in
theorem ok_X10_payment : hc_all mX10_payment := by
  intro n e h
  have hl : n < 136 := hc_gt_lt kX10_payment n e h
  rcases Nat.lt_or_ge n 60 with q0 | q0
  · exact hc_okl_part kX10_payment 0 60 ok_X10_payment_0 n (by omega) (by omega) e h
  rcases Nat.lt_or_ge n 120 with q1 | q1
  · exact hc_okl_part kX10_payment 60 60 ok_X10_payment_60 n (by omega) (by omega) e h
  exact hc_okl_part kX10_payment 120 60 ok_X10_payment_120 n (by omega) (by omega) e h
set_option maxRecDepth 100000 in
theorem ok_X10_line_0 : hc_okl yX10_line.cls cX10_line 1 ((kX10_line.drop 0).take 60) 0 = true := by decide +kernel
set_option maxRecDepth 100000 in
theorem ok_X10_line_60 : hc_okl yX10_line.cls cX10_line 1 ((kX10_line.drop 60).take 60) 60 = true := by decide +kernel
set_option maxRecDepth 100000 in
theorem ok_X10_line : hc_all mX10_line := by
  intro n e h
  have hl : n < 83 := hc_gt_lt kX10_line n e h
  rcases Nat.lt_or_ge n 60 with q0 | q0
  · exact hc_okl_part kX10_line 0 60 ok_X10_line_0 n (by omega) (by omega) e h
  exact hc_okl_part kX10_line 60 60 ok_X10_line_60 n (by omega) (by omega) e h
set_option maxRecDepth 100000 in
theorem ok_X10_clause_0 : hc_okl yX10_clause.cls cX10_clause 1 ((kX10_clause.drop 0).take 60) 0 = true := by decide +kernel
set_option maxRecDepth 100000 in
theorem ok_X10_clause_60 : hc_okl yX10_clause.cls cX10_clause 1 ((kX10_clause.drop 60).take 60) 60 = true := by decide +kernel
set_option maxRecDepth 100000 in
theorem ok_X10_clause_120 : hc_okl yX10_clause.cls cX10_clause 1 ((kX10_clause.drop 120).take 60) 120 = true := by decide +kernel
set_option maxRecDepth 100000 in
theorem ok_X10_clause_180 : hc_okl yX10_clause.cls cX10_clause 1 ((kX10_clause.drop 180).take 60) 180 = true := by decide +kernel
set_option maxRecDepth 100000 in
theorem ok_X10_clause : hc_all mX10_clause := by
  intro n e h
  have hl : n < 185 := hc_gt_lt kX10_clause n e h
  rcases Nat.lt_or_ge n 60 with q0 | q0
  · exact hc_okl_part kX10_clause 0 60 ok_X10_clause_0 n (by omega) (by omega) e h
  rcases Nat.lt_or_ge n 120 with q1 | q1
  · exact hc_okl_part kX10_clause 60 60 ok_X10_clause_60 n (by omega) (by omega) e h
  rcases Nat.lt_or_ge n 180 with q2 | q2
  · exact hc_okl_part kX10_clause 120 60 ok_X10_clause_120 n (by omega) (by omega) e h
  exact hc_okl_part kX10_clause 180 60 ok_X10_clause_180 n (by omega) (by omega) e h
set_option maxRecDepth 100000 in
theorem ok_X10_readText_0 : hc_okl yX10_readText.cls cX10_readText 1 ((kX10_readText.drop 0).take 60) 0 = true := by decide +kernel
set_option maxRecDepth 100000 in
theorem ok_X10_readText_60 : hc_okl yX10_readText.cls cX10_readText 1 ((kX10_readText.drop 60).take 60) 60 = true := by decide +kernel
set_option maxRecDepth 100000 in
theorem ok_X10_readText : hc_all mX10_readText := by
  intro n e h
  have hl : n < 71 := hc_gt_lt kX10_readText n e h
  rcases Nat.lt_or_ge n 60 with q0 | q0
  · exact hc_okl_part kX10_readText 0 60 ok_X10_readText_0 n (by omega) (by omega) e h
  exact hc_okl_part kX10_readText 60 60 ok_X10_readText_60 n (by omega) (by omega) e h
set_option maxRecDepth 100000 in
theorem ok_X10_text_0 : hc_okl yX10_text.cls cX10_text 1 ((kX10_text.drop 0).take 60) 0 = true := by decide +kernel
set_option maxRecDepth 100000 in
theorem ok_X10_text_60 : hc_okl yX10_text.cls cX10_text 1 ((kX10_text.drop 60).take 60) 60 = true := by decide +kernel
set_option maxRecDepth 100000 in
theorem ok_X10_text : hc_all mX10_text := by
  intro n e h
  have hl : n < 72 := hc_gt_lt kX10_text n e h
  rcases Nat.lt_or_ge n 60 with q0 | q0
  · exact hc_okl_part kX10_text 0 60 ok_X10_text_0 n (by omega) (by omega) e h
  exact hc_okl_part kX10_text 60 60 ok_X10_text_60 n (by omega) (by omega) e h
set_option maxRecDepth 100000 in
theorem ok_X10_fault_0 : hc_okl yX10_fault.cls cX10_fault 1 ((kX10_fault.drop 0).take 60) 0 = true := by decide +kernel
set_option maxRecDepth 100000 in
theorem ok_X10_fault : hc_all mX10_fault := by
  intro n e h
  have hl : n < 25 := hc_gt_lt kX10_fault n e h
  exact hc_okl_part kX10_fault 0 60 ok_X10_fault_0 n (by omega) (by omega) e h
set_option maxRecDepth 100000 in
theorem ok_X10_by_0 : hc_okl yX10_by.cls cX10_by 1 ((kX10_by.drop 0).take 60) 0 = true := by decide +kernel
set_option maxRecDepth 100000 in
theorem ok_X10_by : hc_all mX10_by := by
  intro n e h
  have hl : n < 28 := hc_gt_lt kX10_by n e h
  exact hc_okl_part kX10_by 0 60 ok_X10_by_0 n (by omega) (by omega) e h
set_option maxRecDepth 100000 in
theorem ok_X10_clip_0 : hc_okl yX10_clip.cls cX10_clip 0 ((kX10_clip.drop 0).take 60) 0 = true := by decide +kernel
set_option maxRecDepth 100000 in
theorem ok_X10_clip : hc_all mX10_clip := by
  intro n e h
  have hl : n < 30 := hc_gt_lt kX10_clip n e h
  exact hc_okl_part kX10_clip 0 60 ok_X10_clip_0 n (by omega) (by omega) e h
set_option maxRecDepth 100000 in
theorem ok_X10_two_0 : hc_okl yX10_two.cls cX10_two 0 ((kX10_two.drop 0).take 60) 0 = true := by decide +kernel
set_option maxRecDepth 100000 in
theorem ok_X10_two_60 : hc_okl yX10_two.cls cX10_two 0 ((kX10_two.drop 60).take 60) 60 = true := by decide +kernel
set_option maxRecDepth 100000 in
theorem ok_X10_two : hc_all mX10_two := by
  intro n e h
  have hl : n < 66 := hc_gt_lt kX10_two n e h
  rcases Nat.lt_or_ge n 60 with q0 | q0
  · exact hc_okl_part kX10_two 0 60 ok_X10_two_0 n (by omega) (by omega) e h
  exact hc_okl_part kX10_two 60 60 ok_X10_two_60 n (by omega) (by omega) e h
set_option maxRecDepth 100000 in
theorem ok_X10_isAsked_0 : hc_okl yX10_isAsked.cls cX10_isAsked 0 ((kX10_isAsked.drop 0).take 60) 0 = true := by decide +kernel
set_option maxRecDepth 100000 in
theorem ok_X10_isAsked_60 : hc_okl yX10_isAsked.cls cX10_isAsked 0 ((kX10_isAsked.drop 60).take 60) 60 = true := by decide +kernel
set_option maxRecDepth 100000 in
theorem ok_X10_isAsked : hc_all mX10_isAsked := by
  intro n e h
  have hl : n < 112 := hc_gt_lt kX10_isAsked n e h
  rcases Nat.lt_or_ge n 60 with q0 | q0
  · exact hc_okl_part kX10_isAsked 0 60 ok_X10_isAsked_0 n (by omega) (by omega) e h
  exact hc_okl_part kX10_isAsked 60 60 ok_X10_isAsked_60 n (by omega) (by omega) e h
set_option maxRecDepth 100000 in
theorem ok_X10_work_0 : hc_okl yX10_work.cls cX10_work 1 ((kX10_work.drop 0).take 60) 0 = true := by decide +kernel
set_option maxRecDepth 100000 in
theorem ok_X10_work_60 : hc_okl yX10_work.cls cX10_work 1 ((kX10_work.drop 60).take 60) 60 = true := by decide +kernel
set_option maxRecDepth 100000 in
theorem ok_X10_work_120 : hc_okl yX10_work.cls cX10_work 1 ((kX10_work.drop 120).take 60) 120 = true := by decide +kernel
set_option maxRecDepth 100000 in
theorem ok_X10_work_180 : hc_okl yX10_work.cls cX10_work 1 ((kX10_work.drop 180).take 60) 180 = true := by decide +kernel
set_option maxRecDepth 100000 in
theorem ok_X10_work_240 : hc_okl yX10_work.cls cX10_work 1 ((kX10_work.drop 240).take 60) 240 = true := by decide +kernel
set_option maxRecDepth 100000 in
theorem ok_X10_work_300 : hc_okl yX10_work.cls cX10_work 1 ((kX10_work.drop 300).take 60) 300 = true := by decide +kernel
set_option maxRecDepth 100000 in
theorem ok_X10_work_360 : hc_okl yX10_work.cls cX10_work 1 ((kX10_work.drop 360).take 60) 360 = true := by decide +kernel
set_option maxRecDepth 100000 in
theorem ok_X10_work : hc_all mX10_work := by
  intro n e h
  have hl : n < 407 := hc_gt_lt kX10_work n e h
  rcases Nat.lt_or_ge n 60 with q0 | q0
  · exact hc_okl_part kX10_work 0 60 ok_X10_work_0 n (by omega) (by omega) e h
  rcases Nat.lt_or_ge n 120 with q1 | q1
  · exact hc_okl_part kX10_work 60 60 ok_X10_work_60 n (by omega) (by omega) e h
  rcases Nat.lt_or_ge n 180 with q2 | q2
  · exact hc_okl_part kX10_work 120 60 ok_X10_work_120 n (by omega) (by omega) e h
  rcases Nat.lt_or_ge n 240 with q3 | q3
  · exact hc_okl_part kX10_work 180 60 ok_X10_work_180 n (by omega) (by omega) e h
  rcases Nat.lt_or_ge n 300 with q4 | q4
  · exact hc_okl_part kX10_work 240 60 ok_X10_work_240 n (by omega) (by omega) e h
  rcases Nat.lt_or_ge n 360 with q5 | q5
  · exact hc_okl_part kX10_work 300 60 ok_X10_work_300 n (by omega) (by omega) e h
  exact hc_okl_part kX10_work 360 60 ok_X10_work_360 n (by omega) (by omega) e h
set_option maxRecDepth 100000 in
theorem ok_X10_sumOf_0 : hc_okl yX10_sumOf.cls cX10_sumOf 1 ((kX10_sumOf.drop 0).take 60) 0 = true := by decide +kernel
set_option maxRecDepth 100000 in
theorem ok_X10_sumOf_60 : hc_okl yX10_sumOf.cls cX10_sumOf 1 ((kX10_sumOf.drop 60).take 60) 60 = true := by decide +kernel
set_option maxRecDepth 100000 in
theorem ok_X10_sumOf : hc_all mX10_sumOf := by
  intro n e h
  have hl : n < 73 := hc_gt_lt kX10_sumOf n e h
  rcases Nat.lt_or_ge n 60 with q0 | q0
  · exact hc_okl_part kX10_sumOf 0 60 ok_X10_sumOf_0 n (by omega) (by omega) e h
  exact hc_okl_part kX10_sumOf 60 60 ok_X10_sumOf_60 n (by omega) (by omega) e h
set_option maxRecDepth 100000 in
theorem ok_X10_rubsOf_0 : hc_okl yX10_rubsOf.cls cX10_rubsOf 1 ((kX10_rubsOf.drop 0).take 60) 0 = true := by decide +kernel
set_option maxRecDepth 100000 in
theorem ok_X10_rubsOf : hc_all mX10_rubsOf := by
  intro n e h
  have hl : n < 59 := hc_gt_lt kX10_rubsOf n e h
  exact hc_okl_part kX10_rubsOf 0 60 ok_X10_rubsOf_0 n (by omega) (by omega) e h
set_option maxRecDepth 100000 in
theorem ok_X10_keep_0 : hc_okl yX10_keep.cls cX10_keep 1 ((kX10_keep.drop 0).take 60) 0 = true := by decide +kernel
set_option maxRecDepth 100000 in
theorem ok_X10_keep_60 : hc_okl yX10_keep.cls cX10_keep 1 ((kX10_keep.drop 60).take 60) 60 = true := by decide +kernel
set_option maxRecDepth 100000 in
theorem ok_X10_keep_120 : hc_okl yX10_keep.cls cX10_keep 1 ((kX10_keep.drop 120).take 60) 120 = true := by decide +kernel
set_option maxRecDepth 100000 in
theorem ok_X10_keep : hc_all mX10_keep := by
  intro n e h
  have hl : n < 165 := hc_gt_lt kX10_keep n e h
  rcases Nat.lt_or_ge n 60 with q0 | q0
  · exact hc_okl_part kX10_keep 0 60 ok_X10_keep_0 n (by omega) (by omega) e h
  rcases Nat.lt_or_ge n 120 with q1 | q1
  · exact hc_okl_part kX10_keep 60 60 ok_X10_keep_60 n (by omega) (by omega) e h
  exact hc_okl_part kX10_keep 120 60 ok_X10_keep_120 n (by omega) (by omega) e h
set_option maxRecDepth 100000 in
theorem ok_X10_undo_0 : hc_okl yX10_undo.cls cX10_undo 1 ((kX10_undo.drop 0).take 60) 0 = true := by decide +kernel
set_option maxRecDepth 100000 in
theorem ok_X10_undo_60 : hc_okl yX10_undo.cls cX10_undo 1 ((kX10_undo.drop 60).take 60) 60 = true := by decide +kernel
set_option maxRecDepth 100000 in
theorem ok_X10_undo_120 : hc_okl yX10_undo.cls cX10_undo 1 ((kX10_undo.drop 120).take 60) 120 = true := by decide +kernel
set_option maxRecDepth 100000 in
theorem ok_X10_undo : hc_all mX10_undo := by
  intro n e h
  have hl : n < 136 := hc_gt_lt kX10_undo n e h
  rcases Nat.lt_or_ge n 60 with q0 | q0
  · exact hc_okl_part kX10_undo 0 60 ok_X10_undo_0 n (by omega) (by omega) e h
  rcases Nat.lt_or_ge n 120 with q1 | q1
  · exact hc_okl_part kX10_undo 60 60 ok_X10_undo_60 n (by omega) (by omega) e h
  exact hc_okl_part kX10_undo 120 60 ok_X10_undo_120 n (by omega) (by omega) e h
set_option maxRecDepth 100000 in
theorem ok_X10_grant_0 : hc_okl yX10_grant.cls cX10_grant 1 ((kX10_grant.drop 0).take 60) 0 = true := by decide +kernel
set_option maxRecDepth 100000 in
theorem ok_X10_grant : hc_all mX10_grant := by
  intro n e h
  have hl : n < 47 := hc_gt_lt kX10_grant n e h
  exact hc_okl_part kX10_grant 0 60 ok_X10_grant_0 n (by omega) (by omega) e h
set_option maxRecDepth 100000 in
theorem ok_X10_pay_0 : hc_okl yX10_pay.cls cX10_pay 1 ((kX10_pay.drop 0).take 60) 0 = true := by decide +kernel
set_option maxRecDepth 100000 in
theorem ok_X10_pay_60 : hc_okl yX10_pay.cls cX10_pay 1 ((kX10_pay.drop 60).take 60) 60 = true := by decide +kernel
set_option maxRecDepth 100000 in
theorem ok_X10_pay_120 : hc_okl yX10_pay.cls cX10_pay 1 ((kX10_pay.drop 120).take 60) 120 = true := by decide +kernel
set_option maxRecDepth 100000 in
theorem ok_X10_pay_180 : hc_okl yX10_pay.cls cX10_pay 1 ((kX10_pay.drop 180).take 60) 180 = true := by decide +kernel
set_option maxRecDepth 100000 in
theorem ok_X10_pay : hc_all mX10_pay := by
  intro n e h
  have hl : n < 191 := hc_gt_lt kX10_pay n e h
  rcases Nat.lt_or_ge n 60 with q0 | q0
  · exact hc_okl_part kX10_pay 0 60 ok_X10_pay_0 n (by omega) (by omega) e h
  rcases Nat.lt_or_ge n 120 with q1 | q1
  · exact hc_okl_part kX10_pay 60 60 ok_X10_pay_60 n (by omega) (by omega) e h
  rcases Nat.lt_or_ge n 180 with q2 | q2
  · exact hc_okl_part kX10_pay 120 60 ok_X10_pay_120 n (by omega) (by omega) e h
  exact hc_okl_part kX10_pay 180 60 ok_X10_pay_180 n (by omega) (by omega) e h
set_option maxRecDepth 100000 in
theorem ok_X10_passOne_0 : hc_okl yX10_passOne.cls cX10_passOne 1 ((kX10_passOne.drop 0).take 60) 0 = true := by decide +kernel
set_option maxRecDepth 100000 in
theorem ok_X10_passOne_60 : hc_okl yX10_passOne.cls cX10_passOne 1 ((kX10_passOne.drop 60).take 60) 60 = true := by decide +kernel
set_option maxRecDepth 100000 in
theorem ok_X10_passOne_120 : hc_okl yX10_passOne.cls cX10_passOne 1 ((kX10_passOne.drop 120).take 60) 120 = true := by decide +kernel
set_option maxRecDepth 100000 in
theorem ok_X10_passOne : hc_all mX10_passOne := by
  intro n e h
  have hl : n < 137 := hc_gt_lt kX10_passOne n e h
  rcases Nat.lt_or_ge n 60 with q0 | q0
  · exact hc_okl_part kX10_passOne 0 60 ok_X10_passOne_0 n (by omega) (by omega) e h
  rcases Nat.lt_or_ge n 120 with q1 | q1
  · exact hc_okl_part kX10_passOne 60 60 ok_X10_passOne_60 n (by omega) (by omega) e h
  exact hc_okl_part kX10_passOne 120 60 ok_X10_passOne_120 n (by omega) (by omega) e h
set_option maxRecDepth 100000 in
theorem ok_X10_pass_0 : hc_okl yX10_pass.cls cX10_pass 1 ((kX10_pass.drop 0).take 60) 0 = true := by decide +kernel
set_option maxRecDepth 100000 in
theorem ok_X10_pass : hc_all mX10_pass := by
  intro n e h
  have hl : n < 50 := hc_gt_lt kX10_pass n e h
  exact hc_okl_part kX10_pass 0 60 ok_X10_pass_0 n (by omega) (by omega) e h
set_option maxRecDepth 100000 in
theorem ok_X10_isPlayed_0 : hc_okl yX10_isPlayed.cls cX10_isPlayed 1 ((kX10_isPlayed.drop 0).take 60) 0 = true := by decide +kernel
set_option maxRecDepth 100000 in
theorem ok_X10_isPlayed_60 : hc_okl yX10_isPlayed.cls cX10_isPlayed 1 ((kX10_isPlayed.drop 60).take 60) 60 = true := by decide +kernel
set_option maxRecDepth 100000 in
theorem ok_X10_isPlayed : hc_all mX10_isPlayed := by
  intro n e h
  have hl : n < 112 := hc_gt_lt kX10_isPlayed n e h
  rcases Nat.lt_or_ge n 60 with q0 | q0
  · exact hc_okl_part kX10_isPlayed 0 60 ok_X10_isPlayed_0 n (by omega) (by omega) e h
  exact hc_okl_part kX10_isPlayed 60 60 ok_X10_isPlayed_60 n (by omega) (by omega) e h
set_option maxRecDepth 100000 in
theorem ok_X10_played_0 : hc_okl yX10_played.cls cX10_played 1 ((kX10_played.drop 0).take 60) 0 = true := by decide +kernel
set_option maxRecDepth 100000 in
theorem ok_X10_played_60 : hc_okl yX10_played.cls cX10_played 1 ((kX10_played.drop 60).take 60) 60 = true := by decide +kernel
set_option maxRecDepth 100000 in
theorem ok_X10_played : hc_all mX10_played := by
  intro n e h
  have hl : n < 63 := hc_gt_lt kX10_played n e h
  rcases Nat.lt_or_ge n 60 with q0 | q0
  · exact hc_okl_part kX10_played 0 60 ok_X10_played_0 n (by omega) (by omega) e h
  exact hc_okl_part kX10_played 60 60 ok_X10_played_60 n (by omega) (by omega) e h
set_option maxRecDepth 100000 in
theorem ok_X10_marks_0 : hc_okl yX10_marks.cls cX10_marks 1 ((kX10_marks.drop 0).take 60) 0 = true := by decide +kernel
set_option maxRecDepth 100000 in
theorem ok_X10_marks : hc_all mX10_marks := by
  intro n e h
  have hl : n < 31 := hc_gt_lt kX10_marks n e h
  exact hc_okl_part kX10_marks 0 60 ok_X10_marks_0 n (by omega) (by omega) e h
set_option maxRecDepth 100000 in
theorem ok_X10_common_0 : hc_okl yX10_common.cls cX10_common 0 ((kX10_common.drop 0).take 60) 0 = true := by decide +kernel
set_option maxRecDepth 100000 in
theorem ok_X10_common : hc_all mX10_common := by
  intro n e h
  have hl : n < 23 := hc_gt_lt kX10_common n e h
  exact hc_okl_part kX10_common 0 60 ok_X10_common_0 n (by omega) (by omega) e h
set_option maxRecDepth 100000 in
theorem ok_X10_lowerOf_0 : hc_okl yX10_lowerOf.cls cX10_lowerOf 0 ((kX10_lowerOf.drop 0).take 60) 0 = true := by decide +kernel
set_option maxRecDepth 100000 in
theorem ok_X10_lowerOf : hc_all mX10_lowerOf := by
  intro n e h
  have hl : n < 10 := hc_gt_lt kX10_lowerOf n e h
  exact hc_okl_part kX10_lowerOf 0 60 ok_X10_lowerOf_0 n (by omega) (by omega) e h
set_option maxRecDepth 100000 in
theorem ok_X10_share_0 : hc_okl yX10_share.cls cX10_share 1 ((kX10_share.drop 0).take 60) 0 = true := by decide +kernel
set_option maxRecDepth 100000 in
theorem ok_X10_share : hc_all mX10_share := by
  intro n e h
  have hl : n < 51 := hc_gt_lt kX10_share n e h
  exact hc_okl_part kX10_share 0 60 ok_X10_share_0 n (by omega) (by omega) e h
set_option maxRecDepth 100000 in
theorem ok_X10_owes_0 : hc_okl yX10_owes.cls cX10_owes 1 ((kX10_owes.drop 0).take 60) 0 = true := by decide +kernel
set_option maxRecDepth 100000 in
theorem ok_X10_owes_60 : hc_okl yX10_owes.cls cX10_owes 1 ((kX10_owes.drop 60).take 60) 60 = true := by decide +kernel
set_option maxRecDepth 100000 in
theorem ok_X10_owes_120 : hc_okl yX10_owes.cls cX10_owes 1 ((kX10_owes.drop 120).take 60) 120 = true := by decide +kernel
set_option maxRecDepth 100000 in
theorem ok_X10_owes : hc_all mX10_owes := by
  intro n e h
  have hl : n < 122 := hc_gt_lt kX10_owes n e h
  rcases Nat.lt_or_ge n 60 with q0 | q0
  · exact hc_okl_part kX10_owes 0 60 ok_X10_owes_0 n (by omega) (by omega) e h
  rcases Nat.lt_or_ge n 120 with q1 | q1
  · exact hc_okl_part kX10_owes 60 60 ok_X10_owes_60 n (by omega) (by omega) e h
  exact hc_okl_part kX10_owes 120 60 ok_X10_owes_120 n (by omega) (by omega) e h
set_option maxRecDepth 100000 in
theorem ok_X10_balanceOf_0 : hc_okl yX10_balanceOf.cls cX10_balanceOf 1 ((kX10_balanceOf.drop 0).take 60) 0 = true := by decide +kernel
set_option maxRecDepth 100000 in
theorem ok_X10_balanceOf_60 : hc_okl yX10_balanceOf.cls cX10_balanceOf 1 ((kX10_balanceOf.drop 60).take 60) 60 = true := by decide +kernel
set_option maxRecDepth 100000 in
theorem ok_X10_balanceOf : hc_all mX10_balanceOf := by
  intro n e h
  have hl : n < 84 := hc_gt_lt kX10_balanceOf n e h
  rcases Nat.lt_or_ge n 60 with q0 | q0
  · exact hc_okl_part kX10_balanceOf 0 60 ok_X10_balanceOf_0 n (by omega) (by omega) e h
  exact hc_okl_part kX10_balanceOf 60 60 ok_X10_balanceOf_60 n (by omega) (by omega) e h
set_option maxRecDepth 100000 in
theorem ok_X10_lowestOf_0 : hc_okl yX10_lowestOf.cls cX10_lowestOf 0 ((kX10_lowestOf.drop 0).take 60) 0 = true := by decide +kernel
set_option maxRecDepth 100000 in
theorem ok_X10_lowestOf : hc_all mX10_lowestOf := by
  intro n e h
  have hl : n < 18 := hc_gt_lt kX10_lowestOf n e h
  exact hc_okl_part kX10_lowestOf 0 60 ok_X10_lowestOf_0 n (by omega) (by omega) e h
set_option maxRecDepth 100000 in
theorem ok_X10_partOf_0 : hc_okl yX10_partOf.cls cX10_partOf 1 ((kX10_partOf.drop 0).take 60) 0 = true := by decide +kernel
set_option maxRecDepth 100000 in
theorem ok_X10_partOf_60 : hc_okl yX10_partOf.cls cX10_partOf 1 ((kX10_partOf.drop 60).take 60) 60 = true := by decide +kernel
set_option maxRecDepth 100000 in
theorem ok_X10_partOf : hc_all mX10_partOf := by
  intro n e h
  have hl : n < 84 := hc_gt_lt kX10_partOf n e h
  rcases Nat.lt_or_ge n 60 with q0 | q0
  · exact hc_okl_part kX10_partOf 0 60 ok_X10_partOf_0 n (by omega) (by omega) e h
  exact hc_okl_part kX10_partOf 60 60 ok_X10_partOf_60 n (by omega) (by omega) e h
set_option maxRecDepth 100000 in
theorem ok_X10_findMost_0 : hc_okl yX10_findMost.cls cX10_findMost 1 ((kX10_findMost.drop 0).take 60) 0 = true := by decide +kernel
set_option maxRecDepth 100000 in
theorem ok_X10_findMost_60 : hc_okl yX10_findMost.cls cX10_findMost 1 ((kX10_findMost.drop 60).take 60) 60 = true := by decide +kernel
set_option maxRecDepth 100000 in
theorem ok_X10_findMost : hc_all mX10_findMost := by
  intro n e h
  have hl : n < 107 := hc_gt_lt kX10_findMost n e h
  rcases Nat.lt_or_ge n 60 with q0 | q0
  · exact hc_okl_part kX10_findMost 0 60 ok_X10_findMost_0 n (by omega) (by omega) e h
  exact hc_okl_part kX10_findMost 60 60 ok_X10_findMost_60 n (by omega) (by omega) e h
set_option maxRecDepth 100000 in
theorem ok_X10_pairOff_0 : hc_okl yX10_pairOff.cls cX10_pairOff 1 ((kX10_pairOff.drop 0).take 60) 0 = true := by decide +kernel
set_option maxRecDepth 100000 in
theorem ok_X10_pairOff_60 : hc_okl yX10_pairOff.cls cX10_pairOff 1 ((kX10_pairOff.drop 60).take 60) 60 = true := by decide +kernel
set_option maxRecDepth 100000 in
theorem ok_X10_pairOff_120 : hc_okl yX10_pairOff.cls cX10_pairOff 1 ((kX10_pairOff.drop 120).take 60) 120 = true := by decide +kernel
set_option maxRecDepth 100000 in
theorem ok_X10_pairOff : hc_all mX10_pairOff := by
  intro n e h
  have hl : n < 123 := hc_gt_lt kX10_pairOff n e h
  rcases Nat.lt_or_ge n 60 with q0 | q0
  · exact hc_okl_part kX10_pairOff 0 60 ok_X10_pairOff_0 n (by omega) (by omega) e h
  rcases Nat.lt_or_ge n 120 with q1 | q1
  · exact hc_okl_part kX10_pairOff 60 60 ok_X10_pairOff_60 n (by omega) (by omega) e h
  exact hc_okl_part kX10_pairOff 120 60 ok_X10_pairOff_120 n (by omega) (by omega) e h
set_option maxRecDepth 100000 in
theorem ok_X10_net_0 : hc_okl yX10_net.cls cX10_net 1 ((kX10_net.drop 0).take 60) 0 = true := by decide +kernel
set_option maxRecDepth 100000 in
theorem ok_X10_net_60 : hc_okl yX10_net.cls cX10_net 1 ((kX10_net.drop 60).take 60) 60 = true := by decide +kernel
set_option maxRecDepth 100000 in
theorem ok_X10_net_120 : hc_okl yX10_net.cls cX10_net 1 ((kX10_net.drop 120).take 60) 120 = true := by decide +kernel
set_option maxRecDepth 100000 in
theorem ok_X10_net_180 : hc_okl yX10_net.cls cX10_net 1 ((kX10_net.drop 180).take 60) 180 = true := by decide +kernel
set_option maxRecDepth 100000 in
theorem ok_X10_net : hc_all mX10_net := by
  intro n e h
  have hl : n < 181 := hc_gt_lt kX10_net n e h
  rcases Nat.lt_or_ge n 60 with q0 | q0
  · exact hc_okl_part kX10_net 0 60 ok_X10_net_0 n (by omega) (by omega) e h
  rcases Nat.lt_or_ge n 120 with q1 | q1
  · exact hc_okl_part kX10_net 60 60 ok_X10_net_60 n (by omega) (by omega) e h
  rcases Nat.lt_or_ge n 180 with q2 | q2
  · exact hc_okl_part kX10_net 120 60 ok_X10_net_120 n (by omega) (by omega) e h
  exact hc_okl_part kX10_net 180 60 ok_X10_net_180 n (by omega) (by omega) e h
set_option maxRecDepth 100000 in
theorem ok_X10_netted_0 : hc_okl yX10_netted.cls cX10_netted 1 ((kX10_netted.drop 0).take 60) 0 = true := by decide +kernel
set_option maxRecDepth 100000 in
theorem ok_X10_netted : hc_all mX10_netted := by
  intro n e h
  have hl : n < 53 := hc_gt_lt kX10_netted n e h
  exact hc_okl_part kX10_netted 0 60 ok_X10_netted_0 n (by omega) (by omega) e h
set_option maxRecDepth 100000 in
theorem ok_X10_findLowers_0 : hc_okl yX10_findLowers.cls cX10_findLowers 1 ((kX10_findLowers.drop 0).take 60) 0 = true := by decide +kernel
set_option maxRecDepth 100000 in
theorem ok_X10_findLowers_60 : hc_okl yX10_findLowers.cls cX10_findLowers 1 ((kX10_findLowers.drop 60).take 60) 60 = true := by decide +kernel
set_option maxRecDepth 100000 in
theorem ok_X10_findLowers : hc_all mX10_findLowers := by
  intro n e h
  have hl : n < 75 := hc_gt_lt kX10_findLowers n e h
  rcases Nat.lt_or_ge n 60 with q0 | q0
  · exact hc_okl_part kX10_findLowers 0 60 ok_X10_findLowers_0 n (by omega) (by omega) e h
  exact hc_okl_part kX10_findLowers 60 60 ok_X10_findLowers_60 n (by omega) (by omega) e h
set_option maxRecDepth 100000 in
theorem ok_X10_nextFree_0 : hc_okl yX10_nextFree.cls cX10_nextFree 1 ((kX10_nextFree.drop 0).take 60) 0 = true := by decide +kernel
set_option maxRecDepth 100000 in
theorem ok_X10_nextFree : hc_all mX10_nextFree := by
  intro n e h
  have hl : n < 31 := hc_gt_lt kX10_nextFree n e h
  exact hc_okl_part kX10_nextFree 0 60 ok_X10_nextFree_0 n (by omega) (by omega) e h
set_option maxRecDepth 100000 in
theorem ok_X10_canMarry_0 : hc_okl yX10_canMarry.cls cX10_canMarry 1 ((kX10_canMarry.drop 0).take 60) 0 = true := by decide +kernel
set_option maxRecDepth 100000 in
theorem ok_X10_canMarry_60 : hc_okl yX10_canMarry.cls cX10_canMarry 1 ((kX10_canMarry.drop 60).take 60) 60 = true := by decide +kernel
set_option maxRecDepth 100000 in
theorem ok_X10_canMarry : hc_all mX10_canMarry := by
  intro n e h
  have hl : n < 75 := hc_gt_lt kX10_canMarry n e h
  rcases Nat.lt_or_ge n 60 with q0 | q0
  · exact hc_okl_part kX10_canMarry 0 60 ok_X10_canMarry_0 n (by omega) (by omega) e h
  exact hc_okl_part kX10_canMarry 60 60 ok_X10_canMarry_60 n (by omega) (by omega) e h
set_option maxRecDepth 100000 in
theorem ok_X10_free_0 : hc_okl yX10_free.cls cX10_free 1 ((kX10_free.drop 0).take 60) 0 = true := by decide +kernel
set_option maxRecDepth 100000 in
theorem ok_X10_free : hc_all mX10_free := by
  intro n e h
  have hl : n < 27 := hc_gt_lt kX10_free n e h
  exact hc_okl_part kX10_free 0 60 ok_X10_free_0 n (by omega) (by omega) e h
set_option maxRecDepth 100000 in
theorem ok_X10_sumOfAll_0 : hc_okl yX10_sumOfAll.cls cX10_sumOfAll 1 ((kX10_sumOfAll.drop 0).take 60) 0 = true := by decide +kernel
set_option maxRecDepth 100000 in
theorem ok_X10_sumOfAll : hc_all mX10_sumOfAll := by
  intro n e h
  have hl : n < 55 := hc_gt_lt kX10_sumOfAll n e h
  exact hc_okl_part kX10_sumOfAll 0 60 ok_X10_sumOfAll_0 n (by omega) (by omega) e h
