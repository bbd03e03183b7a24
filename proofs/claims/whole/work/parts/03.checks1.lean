set_option maxRecDepth 100000 in
theorem ok_X7_toll_0 : hc_okl yX7_toll.cls cX7_toll 1 ((kX7_toll.drop 0).take 60) 0 = true := by decide +kernel
set_option maxRecDepth 100000 in
theorem ok_X7_toll_60 : hc_okl yX7_toll.cls cX7_toll 1 ((kX7_toll.drop 60).take 60) 60 = true := by decide +kernel
set_option maxRecDepth 100000 in
theorem ok_X7_toll : hc_all mX7_toll := by
  intro n e h
  have hl : n < 120 := hc_gt_lt kX7_toll n e h
  rcases Nat.lt_or_ge n 60 with q0 | q0
  · exact hc_okl_part kX7_toll 0 60 ok_X7_toll_0 n (by omega) (by omega) e h
  exact hc_okl_part kX7_toll 60 60 ok_X7_toll_60 n (by omega) (by omega) e h
set_option maxRecDepth 100000 in
theorem ok_X7_letGoBy_0 : hc_okl yX7_letGoBy.cls cX7_letGoBy 1 ((kX7_letGoBy.drop 0).take 60) 0 = true := by decide +kernel
set_option maxRecDepth 100000 in
theorem ok_X7_letGoBy : hc_all mX7_letGoBy := by
  intro n e h
  have hl : n < 54 := hc_gt_lt kX7_letGoBy n e h
  exact hc_okl_part kX7_letGoBy 0 60 ok_X7_letGoBy_0 n (by omega) (by omega) e h
set_option maxRecDepth 100000 in
theorem ok_X7_oneDay_0 : hc_okl yX7_oneDay.cls cX7_oneDay 1 ((kX7_oneDay.drop 0).take 60) 0 = true := by decide +kernel
set_option maxRecDepth 100000 in
theorem ok_X7_oneDay_60 : hc_okl yX7_oneDay.cls cX7_oneDay 1 ((kX7_oneDay.drop 60).take 60) 60 = true := by decide +kernel
set_option maxRecDepth 100000 in
theorem ok_X7_oneDay_120 : hc_okl yX7_oneDay.cls cX7_oneDay 1 ((kX7_oneDay.drop 120).take 60) 120 = true := by decide +kernel
set_option maxRecDepth 100000 in
theorem ok_X7_oneDay : hc_all mX7_oneDay := by
  intro n e h
  have hl : n < 121 := hc_gt_lt kX7_oneDay n e h
  rcases Nat.lt_or_ge n 60 with q0 | q0
  · exact hc_okl_part kX7_oneDay 0 60 ok_X7_oneDay_0 n (by omega) (by omega) e h
  rcases Nat.lt_or_ge n 120 with q1 | q1
  · exact hc_okl_part kX7_oneDay 60 60 ok_X7_oneDay_60 n (by omega) (by omega) e h
  exact hc_okl_part kX7_oneDay 120 60 ok_X7_oneDay_120 n (by omega) (by omega) e h
set_option maxRecDepth 100000 in
theorem ok_X7_rubs_0 : hc_okl yX7_rubs.cls cX7_rubs 1 ((kX7_rubs.drop 0).take 60) 0 = true := by decide +kernel
set_option maxRecDepth 100000 in
theorem ok_X7_rubs_60 : hc_okl yX7_rubs.cls cX7_rubs 1 ((kX7_rubs.drop 60).take 60) 60 = true := by decide +kernel
set_option maxRecDepth 100000 in
theorem ok_X7_rubs : hc_all mX7_rubs := by
  intro n e h
  have hl : n < 103 := hc_gt_lt kX7_rubs n e h
  rcases Nat.lt_or_ge n 60 with q0 | q0
  · exact hc_okl_part kX7_rubs 0 60 ok_X7_rubs_0 n (by omega) (by omega) e h
  exact hc_okl_part kX7_rubs 60 60 ok_X7_rubs_60 n (by omega) (by omega) e h
set_option maxRecDepth 100000 in
theorem ok_X7_carryOut_0 : hc_okl yX7_carryOut.cls cX7_carryOut 1 ((kX7_carryOut.drop 0).take 60) 0 = true := by decide +kernel
set_option maxRecDepth 100000 in
theorem ok_X7_carryOut_60 : hc_okl yX7_carryOut.cls cX7_carryOut 1 ((kX7_carryOut.drop 60).take 60) 60 = true := by decide +kernel
set_option maxRecDepth 100000 in
theorem ok_X7_carryOut : hc_all mX7_carryOut := by
  intro n e h
  have hl : n < 118 := hc_gt_lt kX7_carryOut n e h
  rcases Nat.lt_or_ge n 60 with q0 | q0
  · exact hc_okl_part kX7_carryOut 0 60 ok_X7_carryOut_0 n (by omega) (by omega) e h
  exact hc_okl_part kX7_carryOut 60 60 ok_X7_carryOut_60 n (by omega) (by omega) e h
set_option maxRecDepth 100000 in
theorem ok_X7_takeBack_0 : hc_okl yX7_takeBack.cls cX7_takeBack 1 ((kX7_takeBack.drop 0).take 60) 0 = true := by decide +kernel
set_option maxRecDepth 100000 in
theorem ok_X7_takeBack : hc_all mX7_takeBack := by
  intro n e h
  have hl : n < 23 := hc_gt_lt kX7_takeBack n e h
  exact hc_okl_part kX7_takeBack 0 60 ok_X7_takeBack_0 n (by omega) (by omega) e h
set_option maxRecDepth 100000 in
theorem ok_X7_partOfBell_0 : hc_okl yX7_partOfBell.cls cX7_partOfBell 1 ((kX7_partOfBell.drop 0).take 60) 0 = true := by decide +kernel
set_option maxRecDepth 100000 in
theorem ok_X7_partOfBell_60 : hc_okl yX7_partOfBell.cls cX7_partOfBell 1 ((kX7_partOfBell.drop 60).take 60) 60 = true := by decide +kernel
set_option maxRecDepth 100000 in
theorem ok_X7_partOfBell_120 : hc_okl yX7_partOfBell.cls cX7_partOfBell 1 ((kX7_partOfBell.drop 120).take 60) 120 = true := by decide +kernel
set_option maxRecDepth 100000 in
theorem ok_X7_partOfBell : hc_all mX7_partOfBell := by
  intro n e h
  have hl : n < 145 := hc_gt_lt kX7_partOfBell n e h
  rcases Nat.lt_or_ge n 60 with q0 | q0
  · exact hc_okl_part kX7_partOfBell 0 60 ok_X7_partOfBell_0 n (by omega) (by omega) e h
  rcases Nat.lt_or_ge n 120 with q1 | q1
  · exact hc_okl_part kX7_partOfBell 60 60 ok_X7_partOfBell_60 n (by omega) (by omega) e h
  exact hc_okl_part kX7_partOfBell 120 60 ok_X7_partOfBell_120 n (by omega) (by omega) e h
set_option maxRecDepth 100000 in
theorem ok_X7_marksBehind_0 : hc_okl yX7_marksBehind.cls cX7_marksBehind 1 ((kX7_marksBehind.drop 0).take 60) 0 = true := by decide +kernel
set_option maxRecDepth 100000 in
theorem ok_X7_marksBehind : hc_all mX7_marksBehind := by
  intro n e h
  have hl : n < 58 := hc_gt_lt kX7_marksBehind n e h
  exact hc_okl_part kX7_marksBehind 0 60 ok_X7_marksBehind_0 n (by omega) (by omega) e h
set_option maxRecDepth 100000 in
theorem ok_X7_bestText_0 : hc_okl yX7_bestText.cls cX7_bestText 1 ((kX7_bestText.drop 0).take 60) 0 = true := by decide +kernel
set_option maxRecDepth 100000 in
theorem ok_X7_bestText_60 : hc_okl yX7_bestText.cls cX7_bestText 1 ((kX7_bestText.drop 60).take 60) 60 = true := by decide +kernel
set_option maxRecDepth 100000 in
theorem ok_X7_bestText : hc_all mX7_bestText := by
  intro n e h
  have hl : n < 86 := hc_gt_lt kX7_bestText n e h
  rcases Nat.lt_or_ge n 60 with q0 | q0
  · exact hc_okl_part kX7_bestText 0 60 ok_X7_bestText_0 n (by omega) (by omega) e h
  exact hc_okl_part kX7_bestText 60 60 ok_X7_bestText_60 n (by omega) (by omega) e h
set_option maxRecDepth 100000 in
theorem ok_X7_weathers_0 : hc_okl yX7_weathers.cls cX7_weathers 1 ((kX7_weathers.drop 0).take 60) 0 = true := by decide +kernel
set_option maxRecDepth 100000 in
theorem ok_X7_weathers_60 : hc_okl yX7_weathers.cls cX7_weathers 1 ((kX7_weathers.drop 60).take 60) 60 = true := by decide +kernel
set_option maxRecDepth 100000 in
theorem ok_X7_weathers : hc_all mX7_weathers := by
  intro n e h
  have hl : n < 99 := hc_gt_lt kX7_weathers n e h
  rcases Nat.lt_or_ge n 60 with q0 | q0
  · exact hc_okl_part kX7_weathers 0 60 ok_X7_weathers_0 n (by omega) (by omega) e h
  exact hc_okl_part kX7_weathers 60 60 ok_X7_weathers_60 n (by omega) (by omega) e h
set_option maxRecDepth 100000 in
theorem ok_X7_fittingDays_0 : hc_okl yX7_fittingDays.cls cX7_fittingDays 1 ((kX7_fittingDays.drop 0).take 60) 0 = true := by decide +kernel
set_option maxRecDepth 100000 in
theorem ok_X7_fittingDays_60 : hc_okl yX7_fittingDays.cls cX7_fittingDays 1 ((kX7_fittingDays.drop 60).take 60) 60 = true := by decide +kernel
set_option maxRecDepth 100000 in
theorem ok_X7_fittingDays : hc_all mX7_fittingDays := by
  intro n e h
  have hl : n < 105 := hc_gt_lt kX7_fittingDays n e h
  rcases Nat.lt_or_ge n 60 with q0 | q0
  · exact hc_okl_part kX7_fittingDays 0 60 ok_X7_fittingDays_0 n (by omega) (by omega) e h
  exact hc_okl_part kX7_fittingDays 60 60 ok_X7_fittingDays_60 n (by omega) (by omega) e h
set_option maxRecDepth 100000 in
theorem ok_X8_init_0 : hc_okl yX8_init.cls cX8_init 2 ((kX8_init.drop 0).take 60) 0 = true := by decide +kernel
set_option maxRecDepth 100000 in
theorem ok_X8_init : hc_all mX8_init := by
  intro n e h
  have hl : n < 26 := hc_gt_lt kX8_init n e h
  exact hc_okl_part kX8_init 0 60 ok_X8_init_0 n (by omega) (by omega) e h
set_option maxRecDepth 100000 in
theorem ok_X8_word_0 : hc_okl yX8_word.cls cX8_word 0 ((kX8_word.drop 0).take 60) 0 = true := by decide +kernel
set_option maxRecDepth 100000 in
theorem ok_X8_word : hc_all mX8_word := by
  intro n e h
  have hl : n < 7 := hc_gt_lt kX8_word n e h
  exact hc_okl_part kX8_word 0 60 ok_X8_word_0 n (by omega) (by omega) e h
set_option maxRecDepth 100000 in
theorem ok_X8_name_0 : hc_okl yX8_name.cls cX8_name 1 ((kX8_name.drop 0).take 60) 0 = true := by decide +kernel
set_option maxRecDepth 100000 in
theorem ok_X8_name : hc_all mX8_name := by
  intro n e h
  have hl : n < 18 := hc_gt_lt kX8_name n e h
  exact hc_okl_part kX8_name 0 60 ok_X8_name_0 n (by omega) (by omega) e h
set_option maxRecDepth 100000 in
theorem ok_X8_value_0 : hc_okl yX8_value.cls cX8_value 1 ((kX8_value.drop 0).take 60) 0 = true := by decide +kernel
set_option maxRecDepth 100000 in
theorem ok_X8_value_60 : hc_okl yX8_value.cls cX8_value 1 ((kX8_value.drop 60).take 60) 60 = true := by decide +kernel
set_option maxRecDepth 100000 in
theorem ok_X8_value : hc_all mX8_value := by
  intro n e h
  have hl : n < 97 := hc_gt_lt kX8_value n e h
  rcases Nat.lt_or_ge n 60 with q0 | q0
  · exact hc_okl_part kX8_value 0 60 ok_X8_value_0 n (by omega) (by omega) e h
  exact hc_okl_part kX8_value 60 60 ok_X8_value_60 n (by omega) (by omega) e h
set_option maxRecDepth 100000 in
theorem ok_X8_work_0 : hc_okl yX8_work.cls cX8_work 1 ((kX8_work.drop 0).take 60) 0 = true := by decide +kernel
set_option maxRecDepth 100000 in
theorem ok_X8_work_60 : hc_okl yX8_work.cls cX8_work 1 ((kX8_work.drop 60).take 60) 60 = true := by decide +kernel
set_option maxRecDepth 100000 in
theorem ok_X8_work_120 : hc_okl yX8_work.cls cX8_work 1 ((kX8_work.drop 120).take 60) 120 = true := by decide +kernel
set_option maxRecDepth 100000 in
theorem ok_X8_work : hc_all mX8_work := by
  intro n e h
  have hl : n < 139 := hc_gt_lt kX8_work n e h
  rcases Nat.lt_or_ge n 60 with q0 | q0
  · exact hc_okl_part kX8_work 0 60 ok_X8_work_0 n (by omega) (by omega) e h
  rcases Nat.lt_or_ge n 120 with q1 | q1
  · exact hc_okl_part kX8_work 60 60 ok_X8_work_60 n (by omega) (by omega) e h
  exact hc_okl_part kX8_work 120 60 ok_X8_work_120 n (by omega) (by omega) e h
set_option maxRecDepth 100000 in
theorem ok_X8_reckon_0 : hc_okl yX8_reckon.cls cX8_reckon 0 ((kX8_reckon.drop 0).take 60) 0 = true := by decide +kernel
set_option maxRecDepth 100000 in
theorem ok_X8_reckon : hc_all mX8_reckon := by
  intro n e h
  have hl : n < 54 := hc_gt_lt kX8_reckon n e h
  exact hc_okl_part kX8_reckon 0 60 ok_X8_reckon_0 n (by omega) (by omega) e h
set_option maxRecDepth 100000 in
theorem ok_X8_isTrue_0 : hc_okl yX8_isTrue.cls cX8_isTrue 0 ((kX8_isTrue.drop 0).take 60) 0 = true := by decide +kernel
set_option maxRecDepth 100000 in
theorem ok_X8_isTrue_60 : hc_okl yX8_isTrue.cls cX8_isTrue 0 ((kX8_isTrue.drop 60).take 60) 60 = true := by decide +kernel
set_option maxRecDepth 100000 in
theorem ok_X8_isTrue_120 : hc_okl yX8_isTrue.cls cX8_isTrue 0 ((kX8_isTrue.drop 120).take 60) 120 = true := by decide +kernel
set_option maxRecDepth 100000 in
theorem ok_X8_isTrue : hc_all mX8_isTrue := by
  intro n e h
  have hl : n < 159 := hc_gt_lt kX8_isTrue n e h
  rcases Nat.lt_or_ge n 60 with q0 | q0
  · exact hc_okl_part kX8_isTrue 0 60 ok_X8_isTrue_0 n (by omega) (by omega) e h
  rcases Nat.lt_or_ge n 120 with q1 | q1
  · exact hc_okl_part kX8_isTrue 60 60 ok_X8_isTrue_60 n (by omega) (by omega) e h
  exact hc_okl_part kX8_isTrue 120 60 ok_X8_isTrue_120 n (by omega) (by omega) e h
set_option maxRecDepth 100000 in
theorem ok_X8_push_0 : hc_okl yX8_push.cls cX8_push 1 ((kX8_push.drop 0).take 60) 0 = true := by decide +kernel
set_option maxRecDepth 100000 in
theorem ok_X8_push_60 : hc_okl yX8_push.cls cX8_push 1 ((kX8_push.drop 60).take 60) 60 = true := by decide +kernel
set_option maxRecDepth 100000 in
theorem ok_X8_push : hc_all mX8_push := by
  intro n e h
  have hl : n < 66 := hc_gt_lt kX8_push n e h
  rcases Nat.lt_or_ge n 60 with q0 | q0
  · exact hc_okl_part kX8_push 0 60 ok_X8_push_0 n (by omega) (by omega) e h
  exact hc_okl_part kX8_push 60 60 ok_X8_push_60 n (by omega) (by omega) e h
set_option maxRecDepth 100000 in
theorem ok_X8_pop_0 : hc_okl yX8_pop.cls cX8_pop 1 ((kX8_pop.drop 0).take 60) 0 = true := by decide +kernel
set_option maxRecDepth 100000 in
theorem ok_X8_pop : hc_all mX8_pop := by
  intro n e h
  have hl : n < 39 := hc_gt_lt kX8_pop n e h
  exact hc_okl_part kX8_pop 0 60 ok_X8_pop_0 n (by omega) (by omega) e h
set_option maxRecDepth 100000 in
theorem ok_X9_init_0 : hc_okl yX9_init.cls cX9_init 2 ((kX9_init.drop 0).take 60) 0 = true := by decide +kernel
set_option maxRecDepth 100000 in
theorem ok_X9_init_60 : hc_okl yX9_init.cls cX9_init 2 ((kX9_init.drop 60).take 60) 60 = true := by decide +kernel
set_option maxRecDepth 100000 in
theorem ok_X9_init : hc_all mX9_init := by
  intro n e h
  have hl : n < 85 := hc_gt_lt kX9_init n e h
  rcases Nat.lt_or_ge n 60 with q0 | q0
  · exact hc_okl_part kX9_init 0 60 ok_X9_init_0 n (by omega) (by omega) e h
  exact hc_okl_part kX9_init 60 60 ok_X9_init_60 n (by omega) (by omega) e h
set_option maxRecDepth 100000 in
theorem ok_X9_folk_0 : hc_okl yX9_folk.cls cX9_folk 1 ((kX9_folk.drop 0).take 60) 0 = true := by decide +kernel
set_option maxRecDepth 100000 in
theorem ok_X9_folk : hc_all mX9_folk := by
  intro n e h
  have hl : n < 21 := hc_gt_lt kX9_folk n e h
  exact hc_okl_part kX9_folk 0 60 ok_X9_folk_0 n (by omega) (by omega) e h
set_option maxRecDepth 100000 in
theorem ok_X9_weather_0 : hc_okl yX9_weather.cls cX9_weather 1 ((kX9_weather.drop 0).take 60) 0 = true := by decide +kernel
set_option maxRecDepth 100000 in
theorem ok_X9_weather : hc_all mX9_weather := by
  intro n e h
  have hl : n < 47 := hc_gt_lt kX9_weather n e h
  exact hc_okl_part kX9_weather 0 60 ok_X9_weather_0 n (by omega) (by omega) e h
set_option maxRecDepth 100000 in
theorem ok_X9_feed_0 : hc_okl yX9_feed.cls cX9_feed 1 ((kX9_feed.drop 0).take 60) 0 = true := by decide +kernel
set_option maxRecDepth 100000 in
theorem ok_X9_feed : hc_all mX9_feed := by
  intro n e h
  have hl : n < 47 := hc_gt_lt kX9_feed n e h
  exact hc_okl_part kX9_feed 0 60 ok_X9_feed_0 n (by omega) (by omega) e h
set_option maxRecDepth 100000 in
theorem ok_X9_putBytes_0 : hc_okl yX9_putBytes.cls cX9_putBytes 1 ((kX9_putBytes.drop 0).take 60) 0 = true := by decide +kernel
set_option maxRecDepth 100000 in
theorem ok_X9_putBytes : hc_all mX9_putBytes := by
  intro n e h
  have hl : n < 59 := hc_gt_lt kX9_putBytes n e h
  exact hc_okl_part kX9_putBytes 0 60 ok_X9_putBytes_0 n (by omega) (by omega) e h
set_option maxRecDepth 100000 in
theorem ok_X9_end_0 : hc_okl yX9_end.cls cX9_end 1 ((kX9_end.drop 0).take 60) 0 = true := by decide +kernel
set_option maxRecDepth 100000 in
theorem ok_X9_end : hc_all mX9_end := by
  intro n e h
  have hl : n < 21 := hc_gt_lt kX9_end n e h
  exact hc_okl_part kX9_end 0 60 ok_X9_end_0 n (by omega) (by omega) e h
set_option maxRecDepth 100000 in
theorem ok_X9_text_0 : hc_okl yX9_text.cls cX9_text 1 ((kX9_text.drop 0).take 60) 0 = true := by decide +kernel
set_option maxRecDepth 100000 in
theorem ok_X9_text_60 : hc_okl yX9_text.cls cX9_text 1 ((kX9_text.drop 60).take 60) 60 = true := by decide +kernel
set_option maxRecDepth 100000 in
theorem ok_X9_text : hc_all mX9_text := by
  intro n e h
  have hl : n < 62 := hc_gt_lt kX9_text n e h
  rcases Nat.lt_or_ge n 60 with q0 | q0
  · exact hc_okl_part kX9_text 0 60 ok_X9_text_0 n (by omega) (by omega) e h
  exact hc_okl_part kX9_text 60 60 ok_X9_text_60 n (by omega) (by omega) e h
set_option maxRecDepth 100000 in
theorem ok_X9_fault_0 : hc_okl yX9_fault.cls cX9_fault 1 ((kX9_fault.drop 0).take 60) 0 = true := by decide +kernel
set_option maxRecDepth 100000 in
theorem ok_X9_fault : hc_all mX9_fault := by
  intro n e h
  have hl : n < 58 := hc_gt_lt kX9_fault n e h
  exact hc_okl_part kX9_fault 0 60 ok_X9_fault_0 n (by omega) (by omega) e h
set_option maxRecDepth 100000 in
theorem ok_X9_by_0 : hc_okl yX9_by.cls cX9_by 1 ((kX9_by.drop 0).take 60) 0 = true := by decide +kernel
set_option maxRecDepth 100000 in
theorem ok_X9_by : hc_all mX9_by := by
  intro n e h
  have hl : n < 28 := hc_gt_lt kX9_by n e h
  exact hc_okl_part kX9_by 0 60 ok_X9_by_0 n (by omega) (by omega) e h
set_option maxRecDepth 100000 in
theorem ok_X9_grant_0 : hc_okl yX9_grant.cls cX9_grant 1 ((kX9_grant.drop 0).take 60) 0 = true := by decide +kernel
set_option maxRecDepth 100000 in
theorem ok_X9_grant : hc_all mX9_grant := by
  intro n e h
  have hl : n < 10 := hc_gt_lt kX9_grant n e h
  exact hc_okl_part kX9_grant 0 60 ok_X9_grant_0 n (by omega) (by omega) e h
set_option maxRecDepth 100000 in
theorem ok_X9_pay_0 : hc_okl yX9_pay.cls cX9_pay 1 ((kX9_pay.drop 0).take 60) 0 = true := by decide +kernel
set_option maxRecDepth 100000 in
theorem ok_X9_pay : hc_all mX9_pay := by
  intro n e h
  have hl : n < 13 := hc_gt_lt kX9_pay n e h
  exact hc_okl_part kX9_pay 0 60 ok_X9_pay_0 n (by omega) (by omega) e h
set_option maxRecDepth 100000 in
theorem ok_X9_pass_0 : hc_okl yX9_pass.cls cX9_pass 1 ((kX9_pass.drop 0).take 60) 0 = true := by decide +kernel
set_option maxRecDepth 100000 in
theorem ok_X9_pass : hc_all mX9_pass := by
  intro n e h
  have hl : n < 9 := hc_gt_lt kX9_pass n e h
  exact hc_okl_part kX9_pass 0 60 ok_X9_pass_0 n (by omega) (by omega) e h
set_option maxRecDepth 100000 in
theorem ok_X9_played_0 : hc_okl yX9_played.cls cX9_played 1 ((kX9_played.drop 0).take 60) 0 = true := by decide +kernel
set_option maxRecDepth 100000 in
theorem ok_X9_played : hc_all mX9_played := by
  intro n e h
  have hl : n < 48 := hc_gt_lt kX9_played n e h
  exact hc_okl_part kX9_played 0 60 ok_X9_played_0 n (by omega) (by omega) e h
set_option maxRecDepth 100000 in
theorem ok_X9_undo_0 : hc_okl yX9_undo.cls cX9_undo 1 ((kX9_undo.drop 0).take 60) 0 = true := by decide +kernel
set_option maxRecDepth 100000 in
theorem ok_X9_undo : hc_all mX9_undo := by
  intro n e h
  have hl : n < 8 := hc_gt_lt kX9_undo n e h
  exact hc_okl_part kX9_undo 0 60 ok_X9_undo_0 n (by omega) (by omega) e h
set_option maxRecDepth 100000 in
theorem ok_X9_marks_0 : hc_okl yX9_marks.cls cX9_marks 1 ((kX9_marks.drop 0).take 60) 0 = true := by decide +kernel
set_option maxRecDepth 100000 in
theorem ok_X9_marks : hc_all mX9_marks := by
  intro n e h
  have hl : n < 39 := hc_gt_lt kX9_marks n e h
  exact hc_okl_part kX9_marks 0 60 ok_X9_marks_0 n (by omega) (by omega) e h
set_option maxRecDepth 100000 in
theorem ok_X9_share_0 : hc_okl yX9_share.cls cX9_share 1 ((kX9_share.drop 0).take 60) 0 = true := by decide +kernel
set_option maxRecDepth 100000 in
theorem ok_X9_share : hc_all mX9_share := by
  intro n e h
  have hl : n < 46 := hc_gt_lt kX9_share n e h
  exact hc_okl_part kX9_share 0 60 ok_X9_share_0 n (by omega) (by omega) e h
set_option maxRecDepth 100000 in
theorem ok_X9_owes_0 : hc_okl yX9_owes.cls cX9_owes 1 ((kX9_owes.drop 0).take 60) 0 = true := by decide +kernel
set_option maxRecDepth 100000 in
theorem ok_X9_owes_60 : hc_okl yX9_owes.cls cX9_owes 1 ((kX9_owes.drop 60).take 60) 60 = true := by decide +kernel
set_option maxRecDepth 100000 in
theorem ok_X9_owes : hc_all mX9_owes := by
  intro n e h
  have hl : n < 70 := hc_gt_lt kX9_owes n e h
  rcases Nat.lt_or_ge n 60 with q0 | q0
  · exact hc_okl_part kX9_owes 0 60 ok_X9_owes_0 n (by omega) (by omega) e h
  exact hc_okl_part kX9_owes 60 60 ok_X9_owes_60 n (by omega) (by omega) e h
set_option maxRecDepth 100000 in
theorem ok_X9_netted_0 : hc_okl yX9_netted.cls cX9_netted 1 ((kX9_netted.drop 0).take 60) 0 = true := by decide +kernel
set_option maxRecDepth 100000 in
theorem ok_X9_netted_60 : hc_okl yX9_netted.cls cX9_netted 1 ((kX9_netted.drop 60).take 60) 60 = true := by decide +kernel
set_option maxRecDepth 100000 in
theorem ok_X9_netted : hc_all mX9_netted := by
  intro n e h
  have hl : n < 117 := hc_gt_lt kX9_netted n e h
  rcases Nat.lt_or_ge n 60 with q0 | q0
  · exact hc_okl_part kX9_netted 0 60 ok_X9_netted_0 n (by omega) (by omega) e h
  exact hc_okl_part kX9_netted 60 60 ok_X9_netted_60 n (by omega) (by omega) e h
set_option maxRecDepth 100000 in
theorem ok_X9_married_0 : hc_okl yX9_married.cls cX9_married 1 ((kX9_married.drop 0).take 60) 0 = true := by decide +kernel
set_option maxRecDepth 100000 in
theorem ok_X9_married_60 : hc_okl yX9_married.cls cX9_married 1 ((kX9_married.drop 60).take 60) 60 = true := by decide +kernel
set_option maxRecDepth 100000 in
theorem ok_X9_married : hc_all mX9_married := by
  intro n e h
  have hl : n < 65 := hc_gt_lt kX9_married n e h
  rcases Nat.lt_or_ge n 60 with q0 | q0
  · exact hc_okl_part kX9_married 0 60 ok_X9_married_0 n (by omega) (by omega) e h
  exact hc_okl_part kX9_married 60 60 ok_X9_married_60 n (by omega) (by omega) e h
set_option maxRecDepth 100000 in
theorem ok_X9_bell_0 : hc_okl yX9_bell.cls cX9_bell 1 ((kX9_bell.drop 0).take 60) 0 = true := by decide +kernel
set_option maxRecDepth 100000 in
theorem ok_X9_bell : hc_all mX9_bell := by
  intro n e h
  have hl : n < 33 := hc_gt_lt kX9_bell n e h
  exact hc_okl_part kX9_bell 0 60 ok_X9_bell_0 n (by omega) (by omega) e h
set_option maxRecDepth 100000 in
theorem ok_X9_cost_0 : hc_okl yX9_cost.cls cX9_cost 1 ((kX9_cost.drop 0).take 60) 0 = true := by decide +kernel
set_option maxRecDepth 100000 in
theorem ok_X9_cost_60 : hc_okl yX9_cost.cls cX9_cost 1 ((kX9_cost.drop 60).take 60) 60 = true := by decide +kernel
set_option maxRecDepth 100000 in
theorem ok_X9_cost : hc_all mX9_cost := by
  intro n e h
  have hl : n < 78 := hc_gt_lt kX9_cost n e h
  rcases Nat.lt_or_ge n 60 with q0 | q0
  · exact hc_okl_part kX9_cost 0 60 ok_X9_cost_0 n (by omega) (by omega) e h
  exact hc_okl_part kX9_cost 60 60 ok_X9_cost_60 n (by omega) (by omega) e h
set_option maxRecDepth 100000 in
theorem ok_X9_best_0 : hc_okl yX9_best.cls cX9_best 1 ((kX9_best.drop 0).take 60) 0 = true := by decide +kernel
set_option maxRecDepth 100000 in
theorem ok_X9_best : hc_all mX9_best := by
  intro n e h
  have hl : n < 31 := hc_gt_lt kX9_best n e h
  exact hc_okl_part kX9_best 0 60 ok_X9_best_0 n (by omega) (by omega) e h
set_option maxRecDepth 100000 in
theorem ok_X9_seen_0 : hc_okl yX9_seen.cls cX9_seen 1 ((kX9_seen.drop 0).take 60) 0 = true := by decide +kernel
set_option maxRecDepth 100000 in
theorem ok_X9_seen_60 : hc_okl yX9_seen.cls cX9_seen 1 ((kX9_seen.drop 60).take 60) 60 = true := by decide +kernel
set_option maxRecDepth 100000 in
theorem ok_X9_seen : hc_all mX9_seen := by
  intro n e h
  have hl : n < 81 := hc_gt_lt kX9_seen n e h
  rcases Nat.lt_or_ge n 60 with q0 | q0
  · exact hc_okl_part kX9_seen 0 60 ok_X9_seen_0 n (by omega) (by omega) e h
  exact hc_okl_part kX9_seen 60 60 ok_X9_seen_60 n (by omega) (by omega) e h
set_option maxRecDepth 100000 in
theorem ok_X9_rubbed_0 : hc_okl yX9_rubbed.cls cX9_rubbed 1 ((kX9_rubbed.drop 0).take 60) 0 = true := by decide +kernel
set_option maxRecDepth 100000 in
theorem ok_X9_rubbed : hc_all mX9_rubbed := by
  intro n e h
  have hl : n < 28 := hc_gt_lt kX9_rubbed n e h
  exact hc_okl_part kX9_rubbed 0 60 ok_X9_rubbed_0 n (by omega) (by omega) e h
set_option maxRecDepth 100000 in
theorem ok_X9_image_0 : hc_okl yX9_image.cls cX9_image 1 ((kX9_image.drop 0).take 60) 0 = true := by decide +kernel
set_option maxRecDepth 100000 in
theorem ok_X9_image : hc_all mX9_image := by
  intro n e h
  have hl : n < 19 := hc_gt_lt kX9_image n e h
  exact hc_okl_part kX9_image 0 60 ok_X9_image_0 n (by omega) (by omega) e h
set_option maxRecDepth 100000 in
theorem ok_X9_back_0 : hc_okl yX9_back.cls cX9_back 1 ((kX9_back.drop 0).take 60) 0 = true := by decide +kernel
set_option maxRecDepth 100000 in
theorem ok_X9_back : hc_all mX9_back := by
  intro n e h
  have hl : n < 19 := hc_gt_lt kX9_back n e h
  exact hc_okl_part kX9_back 0 60 ok_X9_back_0 n (by omega) (by omega) e h
set_option maxRecDepth 100000 in
theorem ok_X9_about_0 : hc_okl yX9_about.cls cX9_about 1 ((kX9_about.drop 0).take 60) 0 = true := by decide +kernel
set_option maxRecDepth 100000 in
theorem ok_X9_about_60 : hc_okl yX9_about.cls cX9_about 1 ((kX9_about.drop 60).take 60) 60 = true := by decide +kernel
set_option maxRecDepth 100000 in
theorem ok_X9_about : hc_all mX9_about := by
  intro n e h
  have hl : n < 85 := hc_gt_lt kX9_about n e h
  rcases Nat.lt_or_ge n 60 with q0 | q0
  · exact hc_okl_part kX9_about 0 60 ok_X9_about_0 n (by omega) (by omega) e h
  exact hc_okl_part kX9_about 60 60 ok_X9_about_60 n (by omega) (by omega) e h
set_option maxRecDepth 100000 in
theorem ok_X9_aboutAll_0 : hc_okl yX9_aboutAll.cls cX9_aboutAll 1 ((kX9_aboutAll.drop 0).take 60) 0 = true := by decide +kernel
set_option maxRecDepth 100000 in
theorem ok_X9_aboutAll_60 : hc_okl yX9_aboutAll.cls cX9_aboutAll 1 ((kX9_aboutAll.drop 60).take 60) 60 = true := by decide +kernel
set_option maxRecDepth 100000 in
theorem ok_X9_aboutAll_120 : hc_okl yX9_aboutAll.cls cX9_aboutAll 1 ((kX9_aboutAll.drop 120).take 60) 120 = true := by decide +kernel
set_option maxRecDepth 100000 in
theorem ok_X9_aboutAll : hc_all mX9_aboutAll := by
  intro n e h
  have hl : n < 154 := hc_gt_lt kX9_aboutAll n e h
  rcases Nat.lt_or_ge n 60 with q0 | q0
  · exact hc_okl_part kX9_aboutAll 0 60 ok_X9_aboutAll_0 n (by omega) (by omega) e h
  rcases Nat.lt_or_ge n 120 with q1 | q1
  · exact hc_okl_part kX9_aboutAll 60 60 ok_X9_aboutAll_60 n (by omega) (by omega) e h
  exact hc_okl_part kX9_aboutAll 120 60 ok_X9_aboutAll_120 n (by omega) (by omega) e h
set_option maxRecDepth 100000 in
theorem ok_X9_isWithin_0 : hc_okl yX9_isWithin.cls cX9_isWithin 0 ((kX9_isWithin.drop 0).take 60) 0 = true := by decide +kernel
set_option maxRecDepth 100000 in
theorem ok_X9_isWithin : hc_all mX9_isWithin := by
  intro n e h
  have hl : n < 16 := hc_gt_lt kX9_isWithin n e h
  exact hc_okl_part kX9_isWithin 0 60 ok_X9_isWithin_0 n (by omega) (by omega) e h
set_option maxRecDepth 100000 in
theorem ok_X9_lowerNumber_0 : hc_okl yX9_lowerNumber.cls cX9_lowerNumber 0 ((kX9_lowerNumber.drop 0).take 60) 0 = true := by decide +kernel
set_option maxRecDepth 100000 in
theorem ok_X9_lowerNumber : hc_all mX9_lowerNumber := by
  intro n e h
  have hl : n < 51 := hc_gt_lt kX9_lowerNumber n e h
  exact hc_okl_part kX9_lowerNumber 0 60 ok_X9_lowerNumber_0 n (by omega) (by omega) e h
set_option maxRecDepth 100000 in
theorem ok_X10_init_0 : hc_okl yX10_init.cls cX10_init 2 ((kX10_init.drop 0).take 60) 0 = true := by decide +kernel
set_option maxRecDepth 100000 in
theorem ok_X10_init_60 : hc_okl yX10_init.cls cX10_init 2 ((kX10_init.drop 60).take 60) 60 = true := by decide +kernel
set_option maxRecDepth 100000 in
theorem ok_X10_init_120 : hc_okl yX10_init.cls cX10_init 2 ((kX10_init.drop 120).take 60) 120 = true := by decide +kernel
set_option maxRecDepth 100000 in
theorem ok_X10_init_180 : hc_okl yX10_init.cls cX10_init 2 ((kX10_init.drop 180).take 60) 180 = true := by decide +kernel
set_option maxRecDepth 100000 in
theorem ok_X10_init : hc_all mX10_init := by
  intro n e h
  have hl : n < 203 := hc_gt_lt kX10_init n e h
  rcases Nat.lt_or_ge n 60 with q0 | q0
  · exact hc_okl_part kX10_init 0 60 ok_X10_init_0 n (by omega) (by omega) e h
  rcases Nat.lt_or_ge n 120 with q1 | q1
  · exact hc_okl_part kX10_init 60 60 ok_X10_init_60 n (by omega) (by omega) e h
  rcases Nat.lt_or_ge n 180 with q2 | q2
  · exact hc_okl_part kX10_init 120 60 ok_X10_init_120 n (by omega) (by omega) e h
  exact hc_okl_part kX10_init 180 60 ok_X10_init_180 n (by omega) (by omega) e h
set_option maxRecDepth 100000 in
theorem ok_X10_copy_0 : hc_okl yX10_copy.cls cX10_copy 0 ((kX10_copy.drop 0).take 60) 0 = true := by decide +kernel
set_option maxRecDepth 100000 in
theorem ok_X10_copy : hc_all mX10_copy := by
  intro n e h
  have hl : n < 22 := hc_gt_lt kX10_copy n e h
  exact hc_okl_part kX10_copy 0 60 ok_X10_copy_0 n (by omega) (by omega) e h
set_option maxRecDepth 100000 in
theorem ok_X10_isIn_0 : hc_okl yX10_isIn.cls cX10_isIn 0 ((kX10_isIn.drop 0).take 60) 0 = true := by decide +kernel
set_option maxRecDepth 100000 in
theorem ok_X10_isIn : hc_all mX10_isIn := by
  intro n e h
  have hl : n < 16 := hc_gt_lt kX10_isIn n e h
  exact hc_okl_part kX10_isIn 0 60 ok_X10_isIn_0 n (by omega) (by omega) e h
set_option maxRecDepth 100000 in
theorem ok_X10_between_0 : hc_okl yX10_between.cls cX10_between 0 ((kX10_between.drop 0).take 60) 0 = true := by decide +kernel
set_option maxRecDepth 100000 in
theorem ok_X10_between : hc_all mX10_between := by
  intro n e h
  have hl : n < 24 := hc_gt_lt kX10_between n e h
  exact hc_okl_part kX10_between 0 60 ok_X10_between_0 n (by omega) (by omega) e h
set_option maxRecDepth 100000 in
theorem ok_X10_has_0 : hc_okl yX10_has.cls cX10_has 0 ((kX10_has.drop 0).take 60) 0 = true := by decide +kernel
set_option maxRecDepth 100000 in
theorem ok_X10_has : hc_all mX10_has := by
  intro n e h
  have hl : n < 15 := hc_gt_lt kX10_has n e h
  exact hc_okl_part kX10_has 0 60 ok_X10_has_0 n (by omega) (by omega) e h
set_option maxRecDepth 100000 in
theorem ok_X10_isFolk_0 : hc_okl yX10_isFolk.cls cX10_isFolk 1 ((kX10_isFolk.drop 0).take 60) 0 = true := by decide +kernel
set_option maxRecDepth 100000 in
theorem ok_X10_isFolk : hc_all mX10_isFolk := by
  intro n e h
  have hl : n < 14 := hc_gt_lt kX10_isFolk n e h
  exact hc_okl_part kX10_isFolk 0 60 ok_X10_isFolk_0 n (by omega) (by omega) e h
set_option maxRecDepth 100000 in
theorem ok_X10_marksOf_0 : hc_okl yX10_marksOf.cls cX10_marksOf 1 ((kX10_marksOf.drop 0).take 60) 0 = true := by decide +kernel
set_option maxRecDepth 100000 in
theorem ok_X10_marksOf : hc_all mX10_marksOf := by
  intro n e h
  have hl : n < 12 := hc_gt_lt kX10_marksOf n e h
  exact hc_okl_part kX10_marksOf 0 60 ok_X10_marksOf_0 n (by omega) (by omega) e h
set_option maxRecDepth 100000 in
theorem ok_X10_boxed_0 : hc_okl yX10_boxed.cls cX10_boxed 1 ((kX10_boxed.drop 0).take 60) 0 = true := by decide +kernel
set_option maxRecDepth 100000 in
theorem ok_X10_boxed : hc_all mX10_boxed := by
  intro n e h
  have hl : n < 31 := hc_gt_lt kX10_boxed n e h
  exact hc_okl_part kX10_boxed 0 60 ok_X10_boxed_0 n (by omega) (by omega) e h
set_option maxRecDepth 100000 in
theorem ok_X10_folk_0 : hc_okl yX10_folk.cls cX10_folk 1 ((kX10_folk.drop 0).take 60) 0 = true := by decide +kernel
set_option maxRecDepth 100000 in
theorem ok_X10_folk_60 : hc_okl yX10_folk.cls cX10_folk 1 ((kX10_folk.drop 60).take 60) 60 = true := by decide +kernel
set_option maxRecDepth 100000 in
theorem ok_X10_folk : hc_all mX10_folk := by
  intro n e h
  have hl : n < 78 := hc_gt_lt kX10_folk n e h
  rcases Nat.lt_or_ge n 60 with q0 | q0
  · exact hc_okl_part kX10_folk 0 60 ok_X10_folk_0 n (by omega) (by omega) e h
  exact hc_okl_part kX10_folk 60 60 ok_X10_folk_60 n (by omega) (by omega) e h
set_option maxRecDepth 100000 in
theorem ok_X10_weather_0 : hc_okl yX10_weather.cls cX10_weather 1 ((kX10_weather.drop 0).take 60) 0 = true := by decide +kernel
set_option maxRecDepth 100000 in
theorem ok_X10_weather : hc_all mX10_weather := by
  intro n e h
  have hl : n < 45 := hc_gt_lt kX10_weather n e h
  exact hc_okl_part kX10_weather 0 60 ok_X10_weather_0 n (by omega) (by omega) e h
set_option maxRecDepth 100000 in
theorem ok_X10_four_0 : hc_okl yX10_four.cls cX10_four 1 ((kX10_four.drop 0).take 60) 0 = true := by decide +kernel
set_option maxRecDepth 100000 in
theorem ok_X10_four : hc_all mX10_four := by
  intro n e h
  have hl : n < 40 := hc_gt_lt kX10_four n e h
  exact hc_okl_part kX10_four 0 60 ok_X10_four_0 n (by omega) (by omega) e h
set_option maxRecDepth 100000 in
theorem ok_X10_feed_0 : hc_okl yX10_feed.cls cX10_feed 1 ((kX10_feed.drop 0).take 60) 0 = true := by decide +kernel
set_option maxRecDepth 100000 in
theorem ok_X10_feed : hc_all mX10_feed := by
  intro n e h
  have hl : n < 47 := hc_gt_lt kX10_feed n e h
  exact hc_okl_part kX10_feed 0 60 ok_X10_feed_0 n (by omega) (by omega) e h
set_option maxRecDepth 100000 in
theorem ok_X10_end_0 : hc_okl yX10_end.cls cX10_end 1 ((kX10_end.drop 0).take 60) 0 = true := by decide +kernel
set_option maxRecDepth 100000 in
theorem ok_X10_end : hc_all mX10_end := by
  intro n e h
  have hl : n < 21 := hc_gt_lt kX10_end n e h
  exact hc_okl_part kX10_end 0 60 ok_X10_end_0 n (by omega) (by omega) e h
set_option maxRecDepth 100000 in
theorem ok_X10_byteAt_0 : hc_okl yX10_byteAt.cls cX10_byteAt 1 ((kX10_byteAt.drop 0).take 60) 0 = true := by decide +kernel
set_option maxRecDepth 100000 in
theorem ok_X10_byteAt : hc_all mX10_byteAt := by
  intro n e h
  have hl : n < 19 := hc_gt_lt kX10_byteAt n e h
  exact hc_okl_part kX10_byteAt 0 60 ok_X10_byteAt_0 n (by omega) (by omega) e h
set_option maxRecDepth 100000 in
theorem ok_X10_isLetter_0 : hc_okl yX10_isLetter.cls cX10_isLetter 0 ((kX10_isLetter.drop 0).take 60) 0 = true := by decide +kernel
set_option maxRecDepth 100000 in
theorem ok_X10_isLetter : hc_all mX10_isLetter := by
  intro n e h
  have hl : n < 28 := hc_gt_lt kX10_isLetter n e h
  exact hc_okl_part kX10_isLetter 0 60 ok_X10_isLetter_0 n (by omega) (by omega) e h
set_option maxRecDepth 100000 in
theorem ok_X10_isDigit_0 : hc_okl yX10_isDigit.cls cX10_isDigit 0 ((kX10_isDigit.drop 0).take 60) 0 = true := by decide +kernel
set_option maxRecDepth 100000 in
theorem ok_X10_isDigit : hc_all mX10_isDigit := by
  intro n e h
  have hl : n < 9 := hc_gt_lt kX10_isDigit n e h
  exact hc_okl_part kX10_isDigit 0 60 ok_X10_isDigit_0 n (by omega) (by omega) e h
set_option maxRecDepth 100000 in
theorem ok_X10_nextToken_0 : hc_okl yX10_nextToken.cls cX10_nextToken 1 ((kX10_nextToken.drop 0).take 60) 0 = true := by decide +kernel
set_option maxRecDepth 100000 in
theorem ok_X10_nextToken_60 : hc_okl yX10_nextToken.cls cX10_nextToken 1 ((kX10_nextToken.drop 60).take 60) 60 = true := by decide +kernel
set_option maxRecDepth 100000 in
theorem ok_X10_nextToken_120 : hc_okl yX10_nextToken.cls cX10_nextToken 1 ((kX10_nextToken.drop 120).take 60) 120 = true := by decide +kernel
set_option maxRecDepth 100000 in
theorem ok_X10_nextToken_180 : hc_okl yX10_nextToken.cls cX10_nextToken 1 ((kX10_nextToken.drop 180).take 60) 180 = true := by decide +kernel
set_option maxRecDepth 100000 in
theorem ok_X10_nextToken_240 : hc_okl yX10_nextToken.cls cX10_nextToken 1 ((kX10_nextToken.drop 240).take 60) 240 = true := by decide +kernel
set_option maxRecDepth 100000 in
theorem ok_X10_nextToken_300 : hc_okl yX10_nextToken.cls cX10_nextToken 1 ((kX10_nextToken.drop 300).take 60) 300 = true := by decide +kernel
set_option maxRecDepth 100000 in
theorem ok_X10_nextToken_360 : hc_okl yX10_nextToken.cls cX10_nextToken 1 ((kX10_nextToken.drop 360).take 60) 360 = true := by decide +kernel
set_option maxRecDepth 100000 in
theorem ok_X10_nextToken : hc_all mX10_nextToken := by
  intro n e h
  have hl : n < 409 := hc_gt_lt kX10_nextToken n e h
  rcases Nat.lt_or_ge n 60 with q0 | q0
  · exact hc_okl_part kX10_nextToken 0 60 ok_X10_nextToken_0 n (by omega) (by omega) e h
  rcases Nat.lt_or_ge n 120 with q1 | q1
  · exact hc_okl_part kX10_nextToken 60 60 ok_X10_nextToken_60 n (by omega) (by omega) e h
  rcases Nat.lt_or_ge n 180 with q2 | q2
  · exact hc_okl_part kX10_nextToken 120 60 ok_X10_nextToken_120 n (by omega) (by omega) e h
  rcases Nat.lt_or_ge n 240 with q3 | q3
  · exact hc_okl_part kX10_nextToken 180 60 ok_X10_nextToken_180 n (by omega) (by omega) e h
  rcases Nat.lt_or_ge n 300 with q4 | q4
  · exact hc_okl_part kX10_nextToken 240 60 ok_X10_nextToken_240 n (by omega) (by omega) e h
  rcases Nat.lt_or_ge n 360 with q5 | q5
  · exact hc_okl_part kX10_nextToken 300 60 ok_X10_nextToken_300 n (by omega) (by omega) e h
  exact hc_okl_part kX10_nextToken 360 60 ok_X10_nextToken_360 n (by omega) (by omega) e h
set_option maxRecDepth 100000 in
theorem ok_X10_w3_0 : hc_okl yX10_w3.cls cX10_w3 0 ((kX10_w3.drop 0).take 60) 0 = true := by decide +kernel
set_option maxRecDepth 100000 in
theorem ok_X10_w3 : hc_all mX10_w3 := by
  intro n e h
  have hl : n < 15 := hc_gt_lt kX10_w3 n e h
  exact hc_okl_part kX10_w3 0 60 ok_X10_w3_0 n (by omega) (by omega) e h
set_option maxRecDepth 100000 in
theorem ok_X10_w5_0 : hc_okl yX10_w5.cls cX10_w5 0 ((kX10_w5.drop 0).take 60) 0 = true := by decide +kernel
set_option maxRecDepth 100000 in
theorem ok_X10_w5 : hc_all mX10_w5 := by
  intro n e h
  have hl : n < 20 := hc_gt_lt kX10_w5 n e h
  exact hc_okl_part kX10_w5 0 60 ok_X10_w5_0 n (by omega) (by omega) e h
set_option maxRecDepth 100000 in
theorem ok_X10_w4_0 : hc_okl yX10_w4.cls cX10_w4 0 ((kX10_w4.drop 0).take 60) 0 = true := by decide +kernel
set_option maxRecDepth 100000 in
theorem ok_X10_w4 : hc_all mX10_w4 := by
  intro n e h
  have hl : n < 13 := hc_gt_lt kX10_w4 n e h
  exact hc_okl_part kX10_w4 0 60 ok_X10_w4_0 n (by omega) (by omega) e h
set_option maxRecDepth 100000 in
theorem ok_X10_isWord_0 : hc_okl yX10_isWord.cls cX10_isWord 1 ((kX10_isWord.drop 0).take 60) 0 = true := by decide +kernel
set_option maxRecDepth 100000 in
theorem ok_X10_isWord : hc_all mX10_isWord := by
  intro n e h
  have hl : n < 23 := hc_gt_lt kX10_isWord n e h
  exact hc_okl_part kX10_isWord 0 60 ok_X10_isWord_0 n (by omega) (by omega) e h
set_option maxRecDepth 100000 in
theorem ok_X10_emit_0 : hc_okl yX10_emit.cls cX10_emit 1 ((kX10_emit.drop 0).take 60) 0 = true := by decide +kernel
set_option maxRecDepth 100000 in
theorem ok_X10_emit : hc_all mX10_emit := by
  intro n e h
  have hl : n < 53 := hc_gt_lt kX10_emit n e h
  exact hc_okl_part kX10_emit 0 60 ok_X10_emit_0 n (by omega) (by omega) e h
set_option maxRecDepth 100000 in
theorem ok_X10_push_0 : hc_okl yX10_push.cls cX10_push 1 ((kX10_push.drop 0).take 60) 0 = true := by decide +kernel
set_option maxRecDepth 100000 in
theorem ok_X10_push : hc_all mX10_push := by
  intro n e h
  have hl : n < 21 := hc_gt_lt kX10_push n e h
  exact hc_okl_part kX10_push 0 60 ok_X10_push_0 n (by omega) (by omega) e h
set_option maxRecDepth 100000 in
theorem ok_X10_rank_0 : hc_okl yX10_rank.cls cX10_rank 0 ((kX10_rank.drop 0).take 60) 0 = true := by decide +kernel
set_option maxRecDepth 100000 in
theorem ok_X10_rank_60 : hc_okl yX10_rank.cls cX10_rank 0 ((kX10_rank.drop 60).take 60) 60 = true := by decide +kernel
set_option maxRecDepth 100000 in
theorem ok_X10_rank : hc_all mX10_rank := by
  intro n e h
  have hl : n < 72 := hc_gt_lt kX10_rank n e h
  rcases Nat.lt_or_ge n 60 with q0 | q0
  · exact hc_okl_part kX10_rank 0 60 ok_X10_rank_0 n (by omega) (by omega) e h
  exact hc_okl_part kX10_rank 60 60 ok_X10_rank_60 n (by omega) (by omega) e h
set_option maxRecDepth 100000 in
theorem ok_X10_settle_0 : hc_okl yX10_settle.cls cX10_settle 1 ((kX10_settle.drop 0).take 60) 0 = true := by decide +kernel
set_option maxRecDepth 100000 in
theorem ok_X10_settle_60 : hc_okl yX10_settle.cls cX10_settle 1 ((kX10_settle.drop 60).take 60) 60 = true := by decide +kernel
set_option maxRecDepth 100000 in
theorem ok_X10_settle : hc_all mX10_settle := by
  intro n e h
  have hl : n < 90 := hc_gt_lt kX10_settle n e h
  rcases Nat.lt_or_ge n 60 with q0 | q0
  · exact hc_okl_part kX10_settle 0 60 ok_X10_settle_0 n (by omega) (by omega) e h
  exact hc_okl_part kX10_settle 60 60 ok_X10_settle_60 n (by omega) (by omega) e h
set_option maxRecDepth 100000 in
theorem ok_X10_whole_0 : hc_okl yX10_whole.cls cX10_whole 1 ((kX10_whole.drop 0).take 60) 0 = true := by decide +kernel
set_option maxRecDepth 100000 in
theorem ok_X10_whole : hc_all mX10_whole := by
  intro n e h
  have hl : n < 12 := hc_gt_lt kX10_whole n e h
  exact hc_okl_part kX10_whole 0 60 ok_X10_whole_0 n (by omega) (by omega) e h
set_option maxRecDepth 100000 in
theorem ok_X10_marker_0 : hc_okl yX10_marker.cls cX10_marker 1 ((kX10_marker.drop 0).take 60) 0 = true := by decide +kernel
set_option maxRecDepth 100000 in
theorem ok_X10_marker : hc_all mX10_marker := by
  intro n e h
  have hl : n < 30 := hc_gt_lt kX10_marker n e h
  exact hc_okl_part kX10_marker 0 60 ok_X10_marker_0 n (by omega) (by omega) e h
set_option maxRecDepth 100000 in
theorem ok_X10_kindOpen_0 : hc_okl yX10_kindOpen.cls cX10_kindOpen 1 ((kX10_kindOpen.drop 0).take 60) 0 = true := by decide +kernel
set_option maxRecDepth 100000 in
theorem ok_X10_kindOpen : hc_all mX10_kindOpen := by
  intro n e h
  have hl : n < 30 := hc_gt_lt kX10_kindOpen n e h
  exact hc_okl_part kX10_kindOpen 0 60 ok_X10_kindOpen_0 n (by omega) (by omega) e h
set_option maxRecDepth 100000 in
theorem ok_X10_isCompared_0 : hc_okl yX10_isCompared.cls cX10_isCompared 1 ((kX10_isCompared.drop 0).take 60) 0 = true := by decide +kernel
set_option maxRecDepth 100000 in
theorem ok_X10_isCompared : hc_all mX10_isCompared := by
  intro n e h
  have hl : n < 53 := hc_gt_lt kX10_isCompared n e h
  exact hc_okl_part kX10_isCompared 0 60 ok_X10_isCompared_0 n (by omega) (by omega) e h
set_option maxRecDepth 100000 in
theorem ok_X10_isAskAhead_0 : hc_okl yX10_isAskAhead.cls cX10_isAskAhead 1 ((kX10_isAskAhead.drop 0).take 60) 0 = true := by decide +kernel
set_option maxRecDepth 100000 in
theorem ok_X10_isAskAhead_60 : hc_okl yX10_isAskAhead.cls cX10_isAskAhead 1 ((kX10_isAskAhead.drop 60).take 60) 60 = true := by decide +kernel
set_option maxRecDepth 100000 in
theorem ok_X10_isAskAhead : hc_all mX10_isAskAhead := by
  intro n e h
  have hl : n < 61 := hc_gt_lt kX10_isAskAhead n e h
  rcases Nat.lt_or_ge n 60 with q0 | q0
  · exact hc_okl_part kX10_isAskAhead 0 60 ok_X10_isAskAhead_0 n (by omega) (by omega) e h
  exact hc_okl_part kX10_isAskAhead 60 60 ok_X10_isAskAhead_60 n (by omega) (by omega) e h
set_option maxRecDepth 100000 in
theorem ok_X10_opensBy_0 : hc_okl yX10_opensBy.cls cX10_opensBy 1 ((kX10_opensBy.drop 0).take 60) 0 = true := by decide +kernel
set_option maxRecDepth 100000 in
theorem ok_X10_opensBy : hc_all mX10_opensBy := by
  intro n e h
  have hl : n < 32 := hc_gt_lt kX10_opensBy n e h
  exact hc_okl_part kX10_opensBy 0 60 ok_X10_opensBy_0 n (by omega) (by omega) e h
set_option maxRecDepth 100000 in
theorem ok_X10_beginOne_0 : hc_okl yX10_beginOne.cls cX10_beginOne 1 ((kX10_beginOne.drop 0).take 60) 0 = true := by decide +kernel
set_option maxRecDepth 100000 in
theorem ok_X10_beginOne_60 : hc_okl yX10_beginOne.cls cX10_beginOne 1 ((kX10_beginOne.drop 60).take 60) 60 = true := by decide +kernel
set_option maxRecDepth 100000 in
theorem ok_X10_beginOne_120 : hc_okl yX10_beginOne.cls cX10_beginOne 1 ((kX10_beginOne.drop 120).take 60) 120 = true := by decide +kernel
set_option maxRecDepth 100000 in
theorem ok_X10_beginOne_180 : hc_okl yX10_beginOne.cls cX10_beginOne 1 ((kX10_beginOne.drop 180).take 60) 180 = true := by decide +kernel
set_option maxRecDepth 100000 in
theorem ok_X10_beginOne : hc_all mX10_beginOne := by
  intro n e h
  have hl : n < 186 := hc_gt_lt kX10_beginOne n e h
  rcases Nat.lt_or_ge n 60 with q0 | q0
  · exact hc_okl_part kX10_beginOne 0 60 ok_X10_beginOne_0 n (by omega) (by omega) e h
  rcases Nat.lt_or_ge n 120 with q1 | q1
  · exact hc_okl_part kX10_beginOne 60 60 ok_X10_beginOne_60 n (by omega) (by omega) e h
  rcases Nat.lt_or_ge n 180 with q2 | q2
  · exact hc_okl_part kX10_beginOne 120 60 ok_X10_beginOne_120 n (by omega) (by omega) e h
  exact hc_okl_part kX10_beginOne 180 60 ok_X10_beginOne_180 n (by omega) (by omega) e h
