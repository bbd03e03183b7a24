/-! every method of the table stands -/
set_option maxRecDepth 100000 in
theorem oh_X0_init : hc_hok mX0_init := ⟨by decide +kernel, ok_X0_init, hc_inTB (i := 165) rfl rfl⟩
set_option maxRecDepth 100000 in
theorem oh_X0_becomeLike : hc_hok mX0_becomeLike := ⟨by decide +kernel, ok_X0_becomeLike, hc_inTB (i := 972) rfl rfl⟩
set_option maxRecDepth 100000 in
theorem oh_X0_forget : hc_hok mX0_forget := ⟨by decide +kernel, ok_X0_forget, hc_inTB (i := 849) rfl rfl⟩
set_option maxRecDepth 100000 in
theorem oh_X0_add : hc_hok mX0_add := ⟨by decide +kernel, ok_X0_add, hc_inTB (i := 853) rfl rfl⟩
set_option maxRecDepth 100000 in
theorem oh_X0_balance : hc_hok mX0_balance := ⟨by decide +kernel, ok_X0_balance, hc_inTB (i := 865) rfl rfl⟩
set_option maxRecDepth 100000 in
theorem oh_X1_init : hc_hok mX1_init := ⟨by decide +kernel, ok_X1_init, hc_inTB (i := 360) rfl rfl⟩
set_option maxRecDepth 100000 in
theorem oh_X1_work : hc_hok mX1_work := ⟨by decide +kernel, ok_X1_work, hc_inTB (i := 893) rfl rfl⟩
set_option maxRecDepth 100000 in
theorem oh_X1_findLowers : hc_hok mX1_findLowers := ⟨by decide +kernel, ok_X1_findLowers, hc_inTB (i := 899) rfl rfl⟩
set_option maxRecDepth 100000 in
theorem oh_X1_marryLowestOf : hc_hok mX1_marryLowestOf := ⟨by decide +kernel, ok_X1_marryLowestOf, hc_inTB (i := 904) rfl rfl⟩
set_option maxRecDepth 100000 in
theorem oh_X2_init : hc_hok mX2_init := ⟨by decide +kernel, ok_X2_init, hc_inTB (i := 328) rfl rfl⟩
set_option maxRecDepth 100000 in
theorem oh_X2_work : hc_hok mX2_work := ⟨by decide +kernel, ok_X2_work, hc_inTB (i := 861) rfl rfl⟩
set_option maxRecDepth 100000 in
theorem oh_X2_countSets : hc_hok mX2_countSets := ⟨by decide +kernel, ok_X2_countSets, hc_inTB (i := 869) rfl rfl⟩
set_option maxRecDepth 100000 in
theorem oh_X2_lowestSet : hc_hok mX2_lowestSet := ⟨by decide +kernel, ok_X2_lowestSet, hc_inTB (i := 874) rfl rfl⟩
set_option maxRecDepth 100000 in
theorem oh_X2_payAlong : hc_hok mX2_payAlong := ⟨by decide +kernel, ok_X2_payAlong, hc_inTB (i := 878) rfl rfl⟩
set_option maxRecDepth 100000 in
theorem oh_X2_settle : hc_hok mX2_settle := ⟨by decide +kernel, ok_X2_settle, hc_inTB (i := 882) rfl rfl⟩
set_option maxRecDepth 100000 in
theorem oh_X3_init : hc_hok mX3_init := ⟨by decide +kernel, ok_X3_init, hc_inTB (i := 276) rfl rfl⟩
set_option maxRecDepth 100000 in
theorem oh_X3_read : hc_hok mX3_read := ⟨by decide +kernel, ok_X3_read, hc_inTB (i := 561) rfl rfl⟩
set_option maxRecDepth 100000 in
theorem oh_X3_advance : hc_hok mX3_advance := ⟨by decide +kernel, ok_X3_advance, hc_inTB (i := 587) rfl rfl⟩
set_option maxRecDepth 100000 in
theorem oh_X3_refuse : hc_hok mX3_refuse := ⟨by decide +kernel, ok_X3_refuse, hc_inTB (i := 571) rfl rfl⟩
set_option maxRecDepth 100000 in
theorem oh_X3_expect : hc_hok mX3_expect := ⟨by decide +kernel, ok_X3_expect, hc_inTB (i := 622) rfl rfl⟩
set_option maxRecDepth 100000 in
theorem oh_X3_readClause : hc_hok mX3_readClause := ⟨by decide +kernel, ok_X3_readClause, hc_inTB (i := 566) rfl rfl⟩
set_option maxRecDepth 100000 in
theorem oh_X3_readLaw : hc_hok mX3_readLaw := ⟨by decide +kernel, ok_X3_readLaw, hc_inTB (i := 583) rfl rfl⟩
set_option maxRecDepth 100000 in
theorem oh_X3_readDeed : hc_hok mX3_readDeed := ⟨by decide +kernel, ok_X3_readDeed, hc_inTB (i := 668) rfl rfl⟩
set_option maxRecDepth 100000 in
theorem oh_X3_takeNumber : hc_hok mX3_takeNumber := ⟨by decide +kernel, ok_X3_takeNumber, hc_inTB (i := 603) rfl rfl⟩
set_option maxRecDepth 100000 in
theorem oh_X3_put : hc_hok mX3_put := ⟨by decide +kernel, ok_X3_put, hc_inTB (i := 579) rfl rfl⟩
set_option maxRecDepth 100000 in
theorem oh_X3_say : hc_hok mX3_say := ⟨by decide +kernel, ok_X3_say, hc_inTB (i := 611) rfl rfl⟩
set_option maxRecDepth 100000 in
theorem oh_X3_leadHere : hc_hok mX3_leadHere := ⟨by decide +kernel, ok_X3_leadHere, hc_inTB (i := 642) rfl rfl⟩
set_option maxRecDepth 100000 in
theorem oh_X3_readSum : hc_hok mX3_readSum := ⟨by decide +kernel, ok_X3_readSum, hc_inTB (i := 591) rfl rfl⟩
set_option maxRecDepth 100000 in
theorem oh_X3_readProduct : hc_hok mX3_readProduct := ⟨by decide +kernel, ok_X3_readProduct, hc_inTB (i := 595) rfl rfl⟩
set_option maxRecDepth 100000 in
theorem oh_X3_readOne : hc_hok mX3_readOne := ⟨by decide +kernel, ok_X3_readOne, hc_inTB (i := 599) rfl rfl⟩
set_option maxRecDepth 100000 in
theorem oh_X3_opens : hc_hok mX3_opens := ⟨by decide +kernel, ok_X3_opens, hc_inTB (i := 618) rfl rfl⟩
set_option maxRecDepth 100000 in
theorem oh_X3_readName : hc_hok mX3_readName := ⟨by decide +kernel, ok_X3_readName, hc_inTB (i := 646) rfl rfl⟩
set_option maxRecDepth 100000 in
theorem oh_X3_readChoice : hc_hok mX3_readChoice := ⟨by decide +kernel, ok_X3_readChoice, hc_inTB (i := 626) rfl rfl⟩
set_option maxRecDepth 100000 in
theorem oh_X3_readEither : hc_hok mX3_readEither := ⟨by decide +kernel, ok_X3_readEither, hc_inTB (i := 630) rfl rfl⟩
set_option maxRecDepth 100000 in
theorem oh_X3_readBoth : hc_hok mX3_readBoth := ⟨by decide +kernel, ok_X3_readBoth, hc_inTB (i := 634) rfl rfl⟩
set_option maxRecDepth 100000 in
theorem oh_X3_readAsk : hc_hok mX3_readAsk := ⟨by decide +kernel, ok_X3_readAsk, hc_inTB (i := 638) rfl rfl⟩
set_option maxRecDepth 100000 in
theorem oh_X4_init : hc_hok mX4_init := ⟨by decide +kernel, ok_X4_init, hc_inTB (i := 147) rfl rfl⟩
set_option maxRecDepth 100000 in
theorem oh_X4_becomeLike : hc_hok mX4_becomeLike := ⟨by decide +kernel, ok_X4_becomeLike, hc_inTB (i := 968) rfl rfl⟩
set_option maxRecDepth 100000 in
theorem oh_X4_keep : hc_hok mX4_keep := ⟨by decide +kernel, ok_X4_keep, hc_inTB (i := 732) rfl rfl⟩
set_option maxRecDepth 100000 in
theorem oh_X4_takeBack : hc_hok mX4_takeBack := ⟨by decide +kernel, ok_X4_takeBack, hc_inTB (i := 825) rfl rfl⟩
set_option maxRecDepth 100000 in
theorem oh_X5_init : hc_hok mX5_init := ⟨by decide +kernel, ok_X5_init, hc_inTB (i := 673) rfl rfl⟩
set_option maxRecDepth 100000 in
theorem oh_X5_number : hc_hok mX5_number := ⟨by decide +kernel, ok_X5_number, hc_inTB (i := 810) rfl rfl⟩
set_option maxRecDepth 100000 in
theorem oh_X6_init : hc_hok mX6_init := ⟨by decide +kernel, ok_X6_init, hc_inTB (i := 248) rfl rfl⟩
set_option maxRecDepth 100000 in
theorem oh_X6_scan : hc_hok mX6_scan := ⟨by decide +kernel, ok_X6_scan, hc_inTB (i := 439) rfl rfl⟩
set_option maxRecDepth 100000 in
theorem oh_X6_kindAt : hc_hok mX6_kindAt := ⟨by decide +kernel, ok_X6_kindAt, hc_inTB (i := 446) rfl rfl⟩
set_option maxRecDepth 100000 in
theorem oh_X6_placeAt : hc_hok mX6_placeAt := ⟨by decide +kernel, ok_X6_placeAt, hc_inTB (i := 575) rfl rfl⟩
set_option maxRecDepth 100000 in
theorem oh_X6_numberAt : hc_hok mX6_numberAt := ⟨by decide +kernel, ok_X6_numberAt, hc_inTB (i := 607) rfl rfl⟩
set_option maxRecDepth 100000 in
theorem oh_X6_scanOne : hc_hok mX6_scanOne := ⟨by decide +kernel, ok_X6_scanOne, hc_inTB (i := 450) rfl rfl⟩
set_option maxRecDepth 100000 in
theorem oh_X6_byteAt : hc_hok mX6_byteAt := ⟨by decide +kernel, ok_X6_byteAt, hc_inTB (i := 454) rfl rfl⟩
set_option maxRecDepth 100000 in
theorem oh_X6_isBlank : hc_hok mX6_isBlank := ⟨by decide +kernel, ok_X6_isBlank, hc_inTB (i := 457) rfl rfl⟩
set_option maxRecDepth 100000 in
theorem oh_X6_isLetter : hc_hok mX6_isLetter := ⟨by decide +kernel, ok_X6_isLetter, hc_inTB (i := 460) rfl rfl⟩
set_option maxRecDepth 100000 in
theorem oh_X6_isDigit : hc_hok mX6_isDigit := ⟨by decide +kernel, ok_X6_isDigit, hc_inTB (i := 546) rfl rfl⟩
set_option maxRecDepth 100000 in
theorem oh_X6_takeWord : hc_hok mX6_takeWord := ⟨by decide +kernel, ok_X6_takeWord, hc_inTB (i := 464) rfl rfl⟩
set_option maxRecDepth 100000 in
theorem oh_X6_stands : hc_hok mX6_stands := ⟨by decide +kernel, ok_X6_stands, hc_inTB (i := 495) rfl rfl⟩
set_option maxRecDepth 100000 in
theorem oh_X6_spelling : hc_hok mX6_spelling := ⟨by decide +kernel, ok_X6_spelling, hc_inTB (i := 467) rfl rfl⟩
set_option maxRecDepth 100000 in
theorem oh_X6_nameSpelling : hc_hok mX6_nameSpelling := ⟨by decide +kernel, ok_X6_nameSpelling, hc_inTB (i := 483) rfl rfl⟩
set_option maxRecDepth 100000 in
theorem oh_X6_takeNumber : hc_hok mX6_takeNumber := ⟨by decide +kernel, ok_X6_takeNumber, hc_inTB (i := 550) rfl rfl⟩
set_option maxRecDepth 100000 in
theorem oh_X6_takeSign : hc_hok mX6_takeSign := ⟨by decide +kernel, ok_X6_takeSign, hc_inTB (i := 554) rfl rfl⟩
set_option maxRecDepth 100000 in
theorem oh_X6_signKind : hc_hok mX6_signKind := ⟨by decide +kernel, ok_X6_signKind, hc_inTB (i := 557) rfl rfl⟩
set_option maxRecDepth 100000 in
theorem oh_X7_init : hc_hok mX7_init := ⟨by decide +kernel, ok_X7_init, hc_inTB (i := 122) rfl rfl⟩
set_option maxRecDepth 100000 in
theorem oh_X7_becomeLike : hc_hok mX7_becomeLike := ⟨by decide +kernel, ok_X7_becomeLike, hc_inTB (i := 963) rfl rfl⟩
set_option maxRecDepth 100000 in
theorem oh_X7_isFolk : hc_hok mX7_isFolk := ⟨by decide +kernel, ok_X7_isFolk, hc_inTB (i := 719) rfl rfl⟩
set_option maxRecDepth 100000 in
theorem oh_X7_isText : hc_hok mX7_isText := ⟨by decide +kernel, ok_X7_isText, hc_inTB (i := 707) rfl rfl⟩
set_option maxRecDepth 100000 in
theorem oh_X7_textAt : hc_hok mX7_textAt := ⟨by decide +kernel, ok_X7_textAt, hc_inTB (i := 749) rfl rfl⟩
set_option maxRecDepth 100000 in
theorem oh_X7_addText : hc_hok mX7_addText := ⟨by decide +kernel, ok_X7_addText, hc_inTB (i := 695) rfl rfl⟩
set_option maxRecDepth 100000 in
theorem oh_X7_welcome : hc_hok mX7_welcome := ⟨by decide +kernel, ok_X7_welcome, hc_inTB (i := 415) rfl rfl⟩
set_option maxRecDepth 100000 in
theorem oh_X7_marksOfFolk : hc_hok mX7_marksOfFolk := ⟨by decide +kernel, ok_X7_marksOfFolk, hc_inTB (i := 728) rfl rfl⟩
set_option maxRecDepth 100000 in
theorem oh_X7_box : hc_hok mX7_box := ⟨by decide +kernel, ok_X7_box, hc_inTB (i := 723) rfl rfl⟩
set_option maxRecDepth 100000 in
theorem oh_X7_give : hc_hok mX7_give := ⟨by decide +kernel, ok_X7_give, hc_inTB (i := 715) rfl rfl⟩
set_option maxRecDepth 100000 in
theorem oh_X7_handOver : hc_hok mX7_handOver := ⟨by decide +kernel, ok_X7_handOver, hc_inTB (i := 741) rfl rfl⟩
set_option maxRecDepth 100000 in
theorem oh_X7_toll : hc_hok mX7_toll := ⟨by decide +kernel, ok_X7_toll, hc_inTB (i := 745) rfl rfl⟩
set_option maxRecDepth 100000 in
theorem oh_X7_letGoBy : hc_hok mX7_letGoBy := ⟨by decide +kernel, ok_X7_letGoBy, hc_inTB (i := 789) rfl rfl⟩
set_option maxRecDepth 100000 in
theorem oh_X7_oneDay : hc_hok mX7_oneDay := ⟨by decide +kernel, ok_X7_oneDay, hc_inTB (i := 793) rfl rfl⟩
set_option maxRecDepth 100000 in
theorem oh_X7_rubs : hc_hok mX7_rubs := ⟨by decide +kernel, ok_X7_rubs, hc_inTB (i := 797) rfl rfl⟩
set_option maxRecDepth 100000 in
theorem oh_X7_carryOut : hc_hok mX7_carryOut := ⟨by decide +kernel, ok_X7_carryOut, hc_inTB (i := 806) rfl rfl⟩
set_option maxRecDepth 100000 in
theorem oh_X7_takeBack : hc_hok mX7_takeBack := ⟨by decide +kernel, ok_X7_takeBack, hc_inTB (i := 821) rfl rfl⟩
set_option maxRecDepth 100000 in
theorem oh_X7_partOfBell : hc_hok mX7_partOfBell := ⟨by decide +kernel, ok_X7_partOfBell, hc_inTB (i := 922) rfl rfl⟩
set_option maxRecDepth 100000 in
theorem oh_X7_marksBehind : hc_hok mX7_marksBehind := ⟨by decide +kernel, ok_X7_marksBehind, hc_inTB (i := 930) rfl rfl⟩
set_option maxRecDepth 100000 in
theorem oh_X7_bestText : hc_hok mX7_bestText := ⟨by decide +kernel, ok_X7_bestText, hc_inTB (i := 938) rfl rfl⟩
set_option maxRecDepth 100000 in
theorem oh_X7_weathers : hc_hok mX7_weathers := ⟨by decide +kernel, ok_X7_weathers, hc_inTB (i := 951) rfl rfl⟩
set_option maxRecDepth 100000 in
theorem oh_X7_fittingDays : hc_hok mX7_fittingDays := ⟨by decide +kernel, ok_X7_fittingDays, hc_inTB (i := 955) rfl rfl⟩
set_option maxRecDepth 100000 in
theorem oh_X8_init : hc_hok mX8_init := ⟨by decide +kernel, ok_X8_init, hc_inTB (i := 128) rfl rfl⟩
set_option maxRecDepth 100000 in
theorem oh_X8_word : hc_hok mX8_word := ⟨by decide +kernel, ok_X8_word, hc_inTB (i := 614) rfl rfl⟩
set_option maxRecDepth 100000 in
theorem oh_X8_name : hc_hok mX8_name := ⟨by decide +kernel, ok_X8_name, hc_inTB (i := 755) rfl rfl⟩
set_option maxRecDepth 100000 in
theorem oh_X8_value : hc_hok mX8_value := ⟨by decide +kernel, ok_X8_value, hc_inTB (i := 760) rfl rfl⟩
set_option maxRecDepth 100000 in
theorem oh_X8_work : hc_hok mX8_work := ⟨by decide +kernel, ok_X8_work, hc_inTB (i := 768) rfl rfl⟩
set_option maxRecDepth 100000 in
theorem oh_X8_reckon : hc_hok mX8_reckon := ⟨by decide +kernel, ok_X8_reckon, hc_inTB (i := 777) rfl rfl⟩
set_option maxRecDepth 100000 in
theorem oh_X8_isTrue : hc_hok mX8_isTrue := ⟨by decide +kernel, ok_X8_isTrue, hc_inTB (i := 780) rfl rfl⟩
set_option maxRecDepth 100000 in
theorem oh_X8_push : hc_hok mX8_push := ⟨by decide +kernel, ok_X8_push, hc_inTB (i := 772) rfl rfl⟩
set_option maxRecDepth 100000 in
theorem oh_X8_pop : hc_hok mX8_pop := ⟨by decide +kernel, ok_X8_pop, hc_inTB (i := 764) rfl rfl⟩
set_option maxRecDepth 100000 in
theorem oh_X9_init : hc_hok mX9_init := ⟨by decide +kernel, ok_X9_init, hc_inTB (i := 114) rfl rfl⟩
set_option maxRecDepth 100000 in
theorem oh_X9_folk : hc_hok mX9_folk := ⟨by decide +kernel, ok_X9_folk, hc_inTB (i := 408) rfl rfl⟩
set_option maxRecDepth 100000 in
theorem oh_X9_weather : hc_hok mX9_weather := ⟨by decide +kernel, ok_X9_weather, hc_inTB (i := 419) rfl rfl⟩
set_option maxRecDepth 100000 in
theorem oh_X9_feed : hc_hok mX9_feed := ⟨by decide +kernel, ok_X9_feed, hc_inTB (i := 423) rfl rfl⟩
set_option maxRecDepth 100000 in
theorem oh_X9_putBytes : hc_hok mX9_putBytes := ⟨by decide +kernel, ok_X9_putBytes, hc_inTB (i := 427) rfl rfl⟩
set_option maxRecDepth 100000 in
theorem oh_X9_end : hc_hok mX9_end := ⟨by decide +kernel, ok_X9_end, hc_inTB (i := 431) rfl rfl⟩
set_option maxRecDepth 100000 in
theorem oh_X9_text : hc_hok mX9_text := ⟨by decide +kernel, ok_X9_text, hc_inTB (i := 435) rfl rfl⟩
set_option maxRecDepth 100000 in
theorem oh_X9_fault : hc_hok mX9_fault := ⟨by decide +kernel, ok_X9_fault, hc_inTB (i := 699) rfl rfl⟩
set_option maxRecDepth 100000 in
theorem oh_X9_by : hc_hok mX9_by := ⟨by decide +kernel, ok_X9_by, hc_inTB (i := 703) rfl rfl⟩
set_option maxRecDepth 100000 in
theorem oh_X9_grant : hc_hok mX9_grant := ⟨by decide +kernel, ok_X9_grant, hc_inTB (i := 711) rfl rfl⟩
set_option maxRecDepth 100000 in
theorem oh_X9_pay : hc_hok mX9_pay := ⟨by decide +kernel, ok_X9_pay, hc_inTB (i := 737) rfl rfl⟩
set_option maxRecDepth 100000 in
theorem oh_X9_pass : hc_hok mX9_pass := ⟨by decide +kernel, ok_X9_pass, hc_inTB (i := 785) rfl rfl⟩
set_option maxRecDepth 100000 in
theorem oh_X9_played : hc_hok mX9_played := ⟨by decide +kernel, ok_X9_played, hc_inTB (i := 801) rfl rfl⟩
set_option maxRecDepth 100000 in
theorem oh_X9_undo : hc_hok mX9_undo := ⟨by decide +kernel, ok_X9_undo, hc_inTB (i := 817) rfl rfl⟩
set_option maxRecDepth 100000 in
theorem oh_X9_marks : hc_hok mX9_marks := ⟨by decide +kernel, ok_X9_marks, hc_inTB (i := 829) rfl rfl⟩
set_option maxRecDepth 100000 in
theorem oh_X9_share : hc_hok mX9_share := ⟨by decide +kernel, ok_X9_share, hc_inTB (i := 835) rfl rfl⟩
set_option maxRecDepth 100000 in
theorem oh_X9_owes : hc_hok mX9_owes := ⟨by decide +kernel, ok_X9_owes, hc_inTB (i := 845) rfl rfl⟩
set_option maxRecDepth 100000 in
theorem oh_X9_netted : hc_hok mX9_netted := ⟨by decide +kernel, ok_X9_netted, hc_inTB (i := 857) rfl rfl⟩
set_option maxRecDepth 100000 in
theorem oh_X9_married : hc_hok mX9_married := ⟨by decide +kernel, ok_X9_married, hc_inTB (i := 889) rfl rfl⟩
set_option maxRecDepth 100000 in
theorem oh_X9_bell : hc_hok mX9_bell := ⟨by decide +kernel, ok_X9_bell, hc_inTB (i := 918) rfl rfl⟩
set_option maxRecDepth 100000 in
theorem oh_X9_cost : hc_hok mX9_cost := ⟨by decide +kernel, ok_X9_cost, hc_inTB (i := 926) rfl rfl⟩
set_option maxRecDepth 100000 in
theorem oh_X9_best : hc_hok mX9_best := ⟨by decide +kernel, ok_X9_best, hc_inTB (i := 934) rfl rfl⟩
set_option maxRecDepth 100000 in
theorem oh_X9_seen : hc_hok mX9_seen := ⟨by decide +kernel, ok_X9_seen, hc_inTB (i := 943) rfl rfl⟩
set_option maxRecDepth 100000 in
theorem oh_X9_rubbed : hc_hok mX9_rubbed := ⟨by decide +kernel, ok_X9_rubbed, hc_inTB (i := 947) rfl rfl⟩
set_option maxRecDepth 100000 in
theorem oh_X9_image : hc_hok mX9_image := ⟨by decide +kernel, ok_X9_image, hc_inTB (i := 959) rfl rfl⟩
set_option maxRecDepth 100000 in
theorem oh_X9_back : hc_hok mX9_back := ⟨by decide +kernel, ok_X9_back, hc_inTB (i := 977) rfl rfl⟩
set_option maxRecDepth 100000 in
theorem oh_X9_about : hc_hok mX9_about := ⟨by decide +kernel, ok_X9_about, hc_inTB (i := 981) rfl rfl⟩
set_option maxRecDepth 100000 in
theorem oh_X9_aboutAll : hc_hok mX9_aboutAll := ⟨by decide +kernel, ok_X9_aboutAll, hc_inTB (i := 987) rfl rfl⟩
set_option maxRecDepth 100000 in
theorem oh_X9_isWithin : hc_hok mX9_isWithin := ⟨by decide +kernel, ok_X9_isWithin, hc_inTB (i := 411) rfl rfl⟩
set_option maxRecDepth 100000 in
theorem oh_X9_lowerNumber : hc_hok mX9_lowerNumber := ⟨by decide +kernel, ok_X9_lowerNumber, hc_inTB (i := 839) rfl rfl⟩
set_option maxRecDepth 100000 in
theorem oh_X10_init : hc_hok mX10_init := ⟨by decide +kernel, ok_X10_init, hc_inTB (i := 992) rfl rfl⟩
set_option maxRecDepth 100000 in
theorem oh_X10_copy : hc_hok mX10_copy := ⟨by decide +kernel, ok_X10_copy, hc_inTB (i := 996) rfl rfl⟩
set_option maxRecDepth 100000 in
theorem oh_X10_isIn : hc_hok mX10_isIn := ⟨by decide +kernel, ok_X10_isIn, hc_inTB (i := 1118) rfl rfl⟩
set_option maxRecDepth 100000 in
theorem oh_X10_between : hc_hok mX10_between := ⟨by decide +kernel, ok_X10_between, hc_inTB (i := 1328) rfl rfl⟩
set_option maxRecDepth 100000 in
theorem oh_X10_has : hc_hok mX10_has := ⟨by decide +kernel, ok_X10_has, hc_inTB (i := 1385) rfl rfl⟩
set_option maxRecDepth 100000 in
theorem oh_X10_isFolk : hc_hok mX10_isFolk := ⟨by decide +kernel, ok_X10_isFolk, hc_inTB (i := 1289) rfl rfl⟩
set_option maxRecDepth 100000 in
theorem oh_X10_marksOf : hc_hok mX10_marksOf := ⟨by decide +kernel, ok_X10_marksOf, hc_inTB (i := 1298) rfl rfl⟩
set_option maxRecDepth 100000 in
theorem oh_X10_boxed : hc_hok mX10_boxed := ⟨by decide +kernel, ok_X10_boxed, hc_inTB (i := 1293) rfl rfl⟩
set_option maxRecDepth 100000 in
theorem oh_X10_folk : hc_hok mX10_folk := ⟨by decide +kernel, ok_X10_folk, hc_inTB (i := 1115) rfl rfl⟩
set_option maxRecDepth 100000 in
theorem oh_X10_weather : hc_hok mX10_weather := ⟨by decide +kernel, ok_X10_weather, hc_inTB (i := 1122) rfl rfl⟩
set_option maxRecDepth 100000 in
theorem oh_X10_four : hc_hok mX10_four := ⟨by decide +kernel, ok_X10_four, hc_inTB (i := 1130) rfl rfl⟩
set_option maxRecDepth 100000 in
theorem oh_X10_feed : hc_hok mX10_feed := ⟨by decide +kernel, ok_X10_feed, hc_inTB (i := 1126) rfl rfl⟩
set_option maxRecDepth 100000 in
theorem oh_X10_end : hc_hok mX10_end := ⟨by decide +kernel, ok_X10_end, hc_inTB (i := 1134) rfl rfl⟩
set_option maxRecDepth 100000 in
theorem oh_X10_byteAt : hc_hok mX10_byteAt := ⟨by decide +kernel, ok_X10_byteAt, hc_inTB (i := 1150) rfl rfl⟩
set_option maxRecDepth 100000 in
theorem oh_X10_isLetter : hc_hok mX10_isLetter := ⟨by decide +kernel, ok_X10_isLetter, hc_inTB (i := 1157) rfl rfl⟩
set_option maxRecDepth 100000 in
theorem oh_X10_isDigit : hc_hok mX10_isDigit := ⟨by decide +kernel, ok_X10_isDigit, hc_inTB (i := 1153) rfl rfl⟩
set_option maxRecDepth 100000 in
theorem oh_X10_nextToken : hc_hok mX10_nextToken := ⟨by decide +kernel, ok_X10_nextToken, hc_inTB (i := 1146) rfl rfl⟩
set_option maxRecDepth 100000 in
theorem oh_X10_w3 : hc_hok mX10_w3 := ⟨by decide +kernel, ok_X10_w3, hc_inTB (i := 1171) rfl rfl⟩
set_option maxRecDepth 100000 in
theorem oh_X10_w5 : hc_hok mX10_w5 := ⟨by decide +kernel, ok_X10_w5, hc_inTB (i := 1178) rfl rfl⟩
set_option maxRecDepth 100000 in
theorem oh_X10_w4 : hc_hok mX10_w4 := ⟨by decide +kernel, ok_X10_w4, hc_inTB (i := 1168) rfl rfl⟩
set_option maxRecDepth 100000 in
theorem oh_X10_isWord : hc_hok mX10_isWord := ⟨by decide +kernel, ok_X10_isWord, hc_inTB (i := 1175) rfl rfl⟩
set_option maxRecDepth 100000 in
theorem oh_X10_emit : hc_hok mX10_emit := ⟨by decide +kernel, ok_X10_emit, hc_inTB (i := 1218) rfl rfl⟩
set_option maxRecDepth 100000 in
theorem oh_X10_push : hc_hok mX10_push := ⟨by decide +kernel, ok_X10_push, hc_inTB (i := 1222) rfl rfl⟩
set_option maxRecDepth 100000 in
theorem oh_X10_rank : hc_hok mX10_rank := ⟨by decide +kernel, ok_X10_rank, hc_inTB (i := 1205) rfl rfl⟩
set_option maxRecDepth 100000 in
theorem oh_X10_settle : hc_hok mX10_settle := ⟨by decide +kernel, ok_X10_settle, hc_inTB (i := 1214) rfl rfl⟩
set_option maxRecDepth 100000 in
theorem oh_X10_whole : hc_hok mX10_whole := ⟨by decide +kernel, ok_X10_whole, hc_inTB (i := 1226) rfl rfl⟩
set_option maxRecDepth 100000 in
theorem oh_X10_marker : hc_hok mX10_marker := ⟨by decide +kernel, ok_X10_marker, hc_inTB (i := 1198) rfl rfl⟩
set_option maxRecDepth 100000 in
theorem oh_X10_kindOpen : hc_hok mX10_kindOpen := ⟨by decide +kernel, ok_X10_kindOpen, hc_inTB (i := 1194) rfl rfl⟩
set_option maxRecDepth 100000 in
theorem oh_X10_isCompared : hc_hok mX10_isCompared := ⟨by decide +kernel, ok_X10_isCompared, hc_inTB (i := 1202) rfl rfl⟩
set_option maxRecDepth 100000 in
theorem oh_X10_isAskAhead : hc_hok mX10_isAskAhead := ⟨by decide +kernel, ok_X10_isAskAhead, hc_inTB (i := 1247) rfl rfl⟩
set_option maxRecDepth 100000 in
theorem oh_X10_opensBy : hc_hok mX10_opensBy := ⟨by decide +kernel, ok_X10_opensBy, hc_inTB (i := 1242) rfl rfl⟩
set_option maxRecDepth 100000 in
theorem oh_X10_beginOne : hc_hok mX10_beginOne := ⟨by decide +kernel, ok_X10_beginOne, hc_inTB (i := 1230) rfl rfl⟩
set_option maxRecDepth 100000 in
theorem oh_X10_compareOf : hc_hok mX10_compareOf := ⟨by decide +kernel, ok_X10_compareOf, hc_inTB (i := 1209) rfl rfl⟩
set_option maxRecDepth 100000 in
theorem oh_X10_betweenOf : hc_hok mX10_betweenOf := ⟨by decide +kernel, ok_X10_betweenOf, hc_inTB (i := 1190) rfl rfl⟩
set_option maxRecDepth 100000 in
theorem oh_X10_behindOne : hc_hok mX10_behindOne := ⟨by decide +kernel, ok_X10_behindOne, hc_inTB (i := 1186) rfl rfl⟩
set_option maxRecDepth 100000 in
theorem oh_X10_parsed : hc_hok mX10_parsed := ⟨by decide +kernel, ok_X10_parsed, hc_inTB (i := 1182) rfl rfl⟩
set_option maxRecDepth 100000 in
theorem oh_X10_nameOf : hc_hok mX10_nameOf := ⟨by decide +kernel, ok_X10_nameOf, hc_inTB (i := 1234) rfl rfl⟩
set_option maxRecDepth 100000 in
theorem oh_X10_isOf : hc_hok mX10_isOf := ⟨by decide +kernel, ok_X10_isOf, hc_inTB (i := 1238) rfl rfl⟩
set_option maxRecDepth 100000 in
theorem oh_X10_sortOf : hc_hok mX10_sortOf := ⟨by decide +kernel, ok_X10_sortOf, hc_inTB (i := 1165) rfl rfl⟩
set_option maxRecDepth 100000 in
theorem oh_X10_figure : hc_hok mX10_figure := ⟨by decide +kernel, ok_X10_figure, hc_inTB (i := 1259) rfl rfl⟩
set_option maxRecDepth 100000 in
theorem oh_X10_isTo : hc_hok mX10_isTo := ⟨by decide +kernel, ok_X10_isTo, hc_inTB (i := 1268) rfl rfl⟩
set_option maxRecDepth 100000 in
theorem oh_X10_person : hc_hok mX10_person := ⟨by decide +kernel, ok_X10_person, hc_inTB (i := 1264) rfl rfl⟩
set_option maxRecDepth 100000 in
theorem oh_X10_payment : hc_hok mX10_payment := ⟨by decide +kernel, ok_X10_payment, hc_inTB (i := 1255) rfl rfl⟩
set_option maxRecDepth 100000 in
theorem oh_X10_line : hc_hok mX10_line := ⟨by decide +kernel, ok_X10_line, hc_inTB (i := 1251) rfl rfl⟩
set_option maxRecDepth 100000 in
theorem oh_X10_clause : hc_hok mX10_clause := ⟨by decide +kernel, ok_X10_clause, hc_inTB (i := 1161) rfl rfl⟩
set_option maxRecDepth 100000 in
theorem oh_X10_readText : hc_hok mX10_readText := ⟨by decide +kernel, ok_X10_readText, hc_inTB (i := 1142) rfl rfl⟩
set_option maxRecDepth 100000 in
theorem oh_X10_text : hc_hok mX10_text := ⟨by decide +kernel, ok_X10_text, hc_inTB (i := 1138) rfl rfl⟩
set_option maxRecDepth 100000 in
theorem oh_X10_fault : hc_hok mX10_fault := ⟨by decide +kernel, ok_X10_fault, hc_inTB (i := 1273) rfl rfl⟩
set_option maxRecDepth 100000 in
theorem oh_X10_by : hc_hok mX10_by := ⟨by decide +kernel, ok_X10_by, hc_inTB (i := 1277) rfl rfl⟩
set_option maxRecDepth 100000 in
theorem oh_X10_clip : hc_hok mX10_clip := ⟨by decide +kernel, ok_X10_clip, hc_inTB (i := 1320) rfl rfl⟩
set_option maxRecDepth 100000 in
theorem oh_X10_two : hc_hok mX10_two := ⟨by decide +kernel, ok_X10_two, hc_inTB (i := 1317) rfl rfl⟩
set_option maxRecDepth 100000 in
theorem oh_X10_isAsked : hc_hok mX10_isAsked := ⟨by decide +kernel, ok_X10_isAsked, hc_inTB (i := 1325) rfl rfl⟩
set_option maxRecDepth 100000 in
theorem oh_X10_work : hc_hok mX10_work := ⟨by decide +kernel, ok_X10_work, hc_inTB (i := 1314) rfl rfl⟩
set_option maxRecDepth 100000 in
theorem oh_X10_sumOf : hc_hok mX10_sumOf := ⟨by decide +kernel, ok_X10_sumOf, hc_inTB (i := 1310) rfl rfl⟩
set_option maxRecDepth 100000 in
theorem oh_X10_rubsOf : hc_hok mX10_rubsOf := ⟨by decide +kernel, ok_X10_rubsOf, hc_inTB (i := 1340) rfl rfl⟩
set_option maxRecDepth 100000 in
theorem oh_X10_keep : hc_hok mX10_keep := ⟨by decide +kernel, ok_X10_keep, hc_inTB (i := 1302) rfl rfl⟩
set_option maxRecDepth 100000 in
theorem oh_X10_undo : hc_hok mX10_undo := ⟨by decide +kernel, ok_X10_undo, hc_inTB (i := 1281) rfl rfl⟩
set_option maxRecDepth 100000 in
theorem oh_X10_grant : hc_hok mX10_grant := ⟨by decide +kernel, ok_X10_grant, hc_inTB (i := 1285) rfl rfl⟩
set_option maxRecDepth 100000 in
theorem oh_X10_pay : hc_hok mX10_pay := ⟨by decide +kernel, ok_X10_pay, hc_inTB (i := 1306) rfl rfl⟩
set_option maxRecDepth 100000 in
theorem oh_X10_passOne : hc_hok mX10_passOne := ⟨by decide +kernel, ok_X10_passOne, hc_inTB (i := 1336) rfl rfl⟩
set_option maxRecDepth 100000 in
theorem oh_X10_pass : hc_hok mX10_pass := ⟨by decide +kernel, ok_X10_pass, hc_inTB (i := 1332) rfl rfl⟩
set_option maxRecDepth 100000 in
theorem oh_X10_isPlayed : hc_hok mX10_isPlayed := ⟨by decide +kernel, ok_X10_isPlayed, hc_inTB (i := 1348) rfl rfl⟩
set_option maxRecDepth 100000 in
theorem oh_X10_played : hc_hok mX10_played := ⟨by decide +kernel, ok_X10_played, hc_inTB (i := 1344) rfl rfl⟩
set_option maxRecDepth 100000 in
theorem oh_X10_marks : hc_hok mX10_marks := ⟨by decide +kernel, ok_X10_marks, hc_inTB (i := 1355) rfl rfl⟩
set_option maxRecDepth 100000 in
theorem oh_X10_common : hc_hok mX10_common := ⟨by decide +kernel, ok_X10_common, hc_inTB (i := 1363) rfl rfl⟩
set_option maxRecDepth 100000 in
theorem oh_X10_lowerOf : hc_hok mX10_lowerOf := ⟨by decide +kernel, ok_X10_lowerOf, hc_inTB (i := 1366) rfl rfl⟩
set_option maxRecDepth 100000 in
theorem oh_X10_share : hc_hok mX10_share := ⟨by decide +kernel, ok_X10_share, hc_inTB (i := 1359) rfl rfl⟩
set_option maxRecDepth 100000 in
theorem oh_X10_owes : hc_hok mX10_owes := ⟨by decide +kernel, ok_X10_owes, hc_inTB (i := 1370) rfl rfl⟩
set_option maxRecDepth 100000 in
theorem oh_X10_balanceOf : hc_hok mX10_balanceOf := ⟨by decide +kernel, ok_X10_balanceOf, hc_inTB (i := 1382) rfl rfl⟩
set_option maxRecDepth 100000 in
theorem oh_X10_lowestOf : hc_hok mX10_lowestOf := ⟨by decide +kernel, ok_X10_lowestOf, hc_inTB (i := 1392) rfl rfl⟩
set_option maxRecDepth 100000 in
theorem oh_X10_partOf : hc_hok mX10_partOf := ⟨by decide +kernel, ok_X10_partOf, hc_inTB (i := 1396) rfl rfl⟩
set_option maxRecDepth 100000 in
theorem oh_X10_findMost : hc_hok mX10_findMost := ⟨by decide +kernel, ok_X10_findMost, hc_inTB (i := 1389) rfl rfl⟩
set_option maxRecDepth 100000 in
theorem oh_X10_pairOff : hc_hok mX10_pairOff := ⟨by decide +kernel, ok_X10_pairOff, hc_inTB (i := 1400) rfl rfl⟩
set_option maxRecDepth 100000 in
theorem oh_X10_net : hc_hok mX10_net := ⟨by decide +kernel, ok_X10_net, hc_inTB (i := 1378) rfl rfl⟩
set_option maxRecDepth 100000 in
theorem oh_X10_netted : hc_hok mX10_netted := ⟨by decide +kernel, ok_X10_netted, hc_inTB (i := 1374) rfl rfl⟩
set_option maxRecDepth 100000 in
theorem oh_X10_findLowers : hc_hok mX10_findLowers := ⟨by decide +kernel, ok_X10_findLowers, hc_inTB (i := 1412) rfl rfl⟩
set_option maxRecDepth 100000 in
theorem oh_X10_nextFree : hc_hok mX10_nextFree := ⟨by decide +kernel, ok_X10_nextFree, hc_inTB (i := 1425) rfl rfl⟩
set_option maxRecDepth 100000 in
theorem oh_X10_canMarry : hc_hok mX10_canMarry := ⟨by decide +kernel, ok_X10_canMarry, hc_inTB (i := 1421) rfl rfl⟩
set_option maxRecDepth 100000 in
theorem oh_X10_free : hc_hok mX10_free := ⟨by decide +kernel, ok_X10_free, hc_inTB (i := 1417) rfl rfl⟩
set_option maxRecDepth 100000 in
theorem oh_X10_sumOfAll : hc_hok mX10_sumOfAll := ⟨by decide +kernel, ok_X10_sumOfAll, hc_inTB (i := 1429) rfl rfl⟩
set_option maxRecDepth 100000 in
theorem oh_X10_marry : hc_hok mX10_marry := ⟨by decide +kernel, ok_X10_marry, hc_inTB (i := 1408) rfl rfl⟩
set_option maxRecDepth 100000 in
theorem oh_X10_married : hc_hok mX10_married := ⟨by decide +kernel, ok_X10_married, hc_inTB (i := 1404) rfl rfl⟩
set_option maxRecDepth 100000 in
theorem oh_X10_bell : hc_hok mX10_bell := ⟨by decide +kernel, ok_X10_bell, hc_inTB (i := 1433) rfl rfl⟩
set_option maxRecDepth 100000 in
theorem oh_X10_costOf : hc_hok mX10_costOf := ⟨by decide +kernel, ok_X10_costOf, hc_inTB (i := 1442) rfl rfl⟩
set_option maxRecDepth 100000 in
theorem oh_X10_cost : hc_hok mX10_cost := ⟨by decide +kernel, ok_X10_cost, hc_inTB (i := 1438) rfl rfl⟩
set_option maxRecDepth 100000 in
theorem oh_X10_best : hc_hok mX10_best := ⟨by decide +kernel, ok_X10_best, hc_inTB (i := 1446) rfl rfl⟩
set_option maxRecDepth 100000 in
theorem oh_X10_seen : hc_hok mX10_seen := ⟨by decide +kernel, ok_X10_seen, hc_inTB (i := 1450) rfl rfl⟩
set_option maxRecDepth 100000 in
theorem oh_X10_canBe : hc_hok mX10_canBe := ⟨by decide +kernel, ok_X10_canBe, hc_inTB (i := 1458) rfl rfl⟩
set_option maxRecDepth 100000 in
theorem oh_X10_rubbed : hc_hok mX10_rubbed := ⟨by decide +kernel, ok_X10_rubbed, hc_inTB (i := 1454) rfl rfl⟩
set_option maxRecDepth 100000 in
theorem oh_X10_image : hc_hok mX10_image := ⟨by decide +kernel, ok_X10_image, hc_inTB (i := 1462) rfl rfl⟩
set_option maxRecDepth 100000 in
theorem oh_X10_back : hc_hok mX10_back := ⟨by decide +kernel, ok_X10_back, hc_inTB (i := 1466) rfl rfl⟩
set_option maxRecDepth 100000 in
theorem oh_X10_about : hc_hok mX10_about := ⟨by decide +kernel, ok_X10_about, hc_inTB (i := 1470) rfl rfl⟩
set_option maxRecDepth 100000 in
theorem oh_J6_numberOfTrailingZeros_0f7a4 : hc_hok mJ6_numberOfTrailingZeros_0f7a4 := ⟨by decide +kernel, ok_J6_numberOfTrailingZeros_0f7a4, hc_inTB (i := 907) rfl rfl⟩
set_option maxRecDepth 100000 in
theorem oh_J6_bitCount_0f7a4 : hc_hok mJ6_bitCount_0f7a4 := ⟨by decide +kernel, ok_J6_bitCount_0f7a4, hc_inTB (i := 911) rfl rfl⟩
set_option maxRecDepth 100000 in
theorem oh_J7_copyOf_59c91 : hc_hok mJ7_copyOf_59c91 := ⟨by decide +kernel, ok_J7_copyOf_59c91, hc_inTB (i := 653) rfl rfl⟩
set_option maxRecDepth 100000 in
theorem hc_MTok : ∀ mj ∈ hc_MT, hc_hok mj := List.forall_mem_cons.mpr ⟨oh_X0_init, List.forall_mem_cons.mpr ⟨oh_X0_becomeLike, List.forall_mem_cons.mpr ⟨oh_X0_forget, List.forall_mem_cons.mpr ⟨oh_X0_add, List.forall_mem_cons.mpr ⟨oh_X0_balance, List.forall_mem_cons.mpr ⟨oh_X1_init, List.forall_mem_cons.mpr ⟨oh_X1_work, List.forall_mem_cons.mpr ⟨oh_X1_findLowers, List.forall_mem_cons.mpr ⟨oh_X1_marryLowestOf, List.forall_mem_cons.mpr ⟨oh_X2_init, List.forall_mem_cons.mpr ⟨oh_X2_work, List.forall_mem_cons.mpr ⟨oh_X2_countSets, List.forall_mem_cons.mpr ⟨oh_X2_lowestSet, List.forall_mem_cons.mpr ⟨oh_X2_payAlong, List.forall_mem_cons.mpr ⟨oh_X2_settle, List.forall_mem_cons.mpr ⟨oh_X3_init, List.forall_mem_cons.mpr ⟨oh_X3_read, List.forall_mem_cons.mpr ⟨oh_X3_advance, List.forall_mem_cons.mpr ⟨oh_X3_refuse, List.forall_mem_cons.mpr ⟨oh_X3_expect, List.forall_mem_cons.mpr ⟨oh_X3_readClause, List.forall_mem_cons.mpr ⟨oh_X3_readLaw, List.forall_mem_cons.mpr ⟨oh_X3_readDeed, List.forall_mem_cons.mpr ⟨oh_X3_takeNumber, List.forall_mem_cons.mpr ⟨oh_X3_put, List.forall_mem_cons.mpr ⟨oh_X3_say, List.forall_mem_cons.mpr ⟨oh_X3_leadHere, List.forall_mem_cons.mpr ⟨oh_X3_readSum, List.forall_mem_cons.mpr ⟨oh_X3_readProduct, List.forall_mem_cons.mpr ⟨oh_X3_readOne, List.forall_mem_cons.mpr ⟨oh_X3_opens, List.forall_mem_cons.mpr ⟨oh_X3_readName, List.forall_mem_cons.mpr ⟨oh_X3_readChoice, List.forall_mem_cons.mpr ⟨oh_X3_readEither, List.forall_mem_cons.mpr ⟨oh_X3_readBoth, List.forall_mem_cons.mpr ⟨oh_X3_readAsk, List.forall_mem_cons.mpr ⟨oh_X4_init, List.forall_mem_cons.mpr ⟨oh_X4_becomeLike, List.forall_mem_cons.mpr ⟨oh_X4_keep, List.forall_mem_cons.mpr ⟨oh_X4_takeBack, List.forall_mem_cons.mpr ⟨oh_X5_init, List.forall_mem_cons.mpr ⟨oh_X5_number, List.forall_mem_cons.mpr ⟨oh_X6_init, List.forall_mem_cons.mpr ⟨oh_X6_scan, List.forall_mem_cons.mpr ⟨oh_X6_kindAt, List.forall_mem_cons.mpr ⟨oh_X6_placeAt, List.forall_mem_cons.mpr ⟨oh_X6_numberAt, List.forall_mem_cons.mpr ⟨oh_X6_scanOne, List.forall_mem_cons.mpr ⟨oh_X6_byteAt, List.forall_mem_cons.mpr ⟨oh_X6_isBlank, List.forall_mem_cons.mpr ⟨oh_X6_isLetter, List.forall_mem_cons.mpr ⟨oh_X6_isDigit, List.forall_mem_cons.mpr ⟨oh_X6_takeWord, List.forall_mem_cons.mpr ⟨oh_X6_stands, List.forall_mem_cons.mpr ⟨oh_X6_spelling, List.forall_mem_cons.mpr ⟨oh_X6_nameSpelling, List.forall_mem_cons.mpr ⟨oh_X6_takeNumber, List.forall_mem_cons.mpr ⟨oh_X6_takeSign, List.forall_mem_cons.mpr ⟨oh_X6_signKind, List.forall_mem_cons.mpr ⟨oh_X7_init, List.forall_mem_cons.mpr ⟨oh_X7_becomeLike, List.forall_mem_cons.mpr ⟨oh_X7_isFolk, List.forall_mem_cons.mpr ⟨oh_X7_isText, List.forall_mem_cons.mpr ⟨oh_X7_textAt, List.forall_mem_cons.mpr ⟨oh_X7_addText, List.forall_mem_cons.mpr ⟨oh_X7_welcome, List.forall_mem_cons.mpr ⟨oh_X7_marksOfFolk, List.forall_mem_cons.mpr ⟨oh_X7_box, List.forall_mem_cons.mpr ⟨oh_X7_give, List.forall_mem_cons.mpr ⟨oh_X7_handOver, List.forall_mem_cons.mpr ⟨oh_X7_toll, List.forall_mem_cons.mpr ⟨oh_X7_letGoBy, List.forall_mem_cons.mpr ⟨oh_X7_oneDay, List.forall_mem_cons.mpr ⟨oh_X7_rubs, List.forall_mem_cons.mpr ⟨oh_X7_carryOut, List.forall_mem_cons.mpr ⟨oh_X7_takeBack, List.forall_mem_cons.mpr ⟨oh_X7_partOfBell, List.forall_mem_cons.mpr ⟨oh_X7_marksBehind, List.forall_mem_cons.mpr ⟨oh_X7_bestText, List.forall_mem_cons.mpr ⟨oh_X7_weathers, List.forall_mem_cons.mpr ⟨oh_X7_fittingDays, List.forall_mem_cons.mpr ⟨oh_X8_init, List.forall_mem_cons.mpr ⟨oh_X8_word, List.forall_mem_cons.mpr ⟨oh_X8_name, List.forall_mem_cons.mpr ⟨oh_X8_value, List.forall_mem_cons.mpr ⟨oh_X8_work, List.forall_mem_cons.mpr ⟨oh_X8_reckon, List.forall_mem_cons.mpr ⟨oh_X8_isTrue, List.forall_mem_cons.mpr ⟨oh_X8_push, List.forall_mem_cons.mpr ⟨oh_X8_pop, List.forall_mem_cons.mpr ⟨oh_X9_init, List.forall_mem_cons.mpr ⟨oh_X9_folk, List.forall_mem_cons.mpr ⟨oh_X9_weather, List.forall_mem_cons.mpr ⟨oh_X9_feed, List.forall_mem_cons.mpr ⟨oh_X9_putBytes, List.forall_mem_cons.mpr ⟨oh_X9_end, List.forall_mem_cons.mpr ⟨oh_X9_text, List.forall_mem_cons.mpr ⟨oh_X9_fault, List.forall_mem_cons.mpr ⟨oh_X9_by, List.forall_mem_cons.mpr ⟨oh_X9_grant, List.forall_mem_cons.mpr ⟨oh_X9_pay, List.forall_mem_cons.mpr ⟨oh_X9_pass, List.forall_mem_cons.mpr ⟨oh_X9_played, List.forall_mem_cons.mpr ⟨oh_X9_undo, List.forall_mem_cons.mpr ⟨oh_X9_marks, List.forall_mem_cons.mpr ⟨oh_X9_share, List.forall_mem_cons.mpr ⟨oh_X9_owes, List.forall_mem_cons.mpr ⟨oh_X9_netted, List.forall_mem_cons.mpr ⟨oh_X9_married, List.forall_mem_cons.mpr ⟨oh_X9_bell, List.forall_mem_cons.mpr ⟨oh_X9_cost, List.forall_mem_cons.mpr ⟨oh_X9_best, List.forall_mem_cons.mpr ⟨oh_X9_seen, List.forall_mem_cons.mpr ⟨oh_X9_rubbed, List.forall_mem_cons.mpr ⟨oh_X9_image, List.forall_mem_cons.mpr ⟨oh_X9_back, List.forall_mem_cons.mpr ⟨oh_X9_about, List.forall_mem_cons.mpr ⟨oh_X9_aboutAll, List.forall_mem_cons.mpr ⟨oh_X9_isWithin, List.forall_mem_cons.mpr ⟨oh_X9_lowerNumber, List.forall_mem_cons.mpr ⟨oh_X10_init, List.forall_mem_cons.mpr ⟨oh_X10_copy, List.forall_mem_cons.mpr ⟨oh_X10_isIn, List.forall_mem_cons.mpr ⟨oh_X10_between, List.forall_mem_cons.mpr ⟨oh_X10_has, List.forall_mem_cons.mpr ⟨oh_X10_isFolk, List.forall_mem_cons.mpr ⟨oh_X10_marksOf, List.forall_mem_cons.mpr ⟨oh_X10_boxed, List.forall_mem_cons.mpr ⟨oh_X10_folk, List.forall_mem_cons.mpr ⟨oh_X10_weather, List.forall_mem_cons.mpr ⟨oh_X10_four, List.forall_mem_cons.mpr ⟨oh_X10_feed, List.forall_mem_cons.mpr ⟨oh_X10_end, List.forall_mem_cons.mpr ⟨oh_X10_byteAt, List.forall_mem_cons.mpr ⟨oh_X10_isLetter, List.forall_mem_cons.mpr ⟨oh_X10_isDigit, List.forall_mem_cons.mpr ⟨oh_X10_nextToken, List.forall_mem_cons.mpr ⟨oh_X10_w3, List.forall_mem_cons.mpr ⟨oh_X10_w5, List.forall_mem_cons.mpr ⟨oh_X10_w4, List.forall_mem_cons.mpr ⟨oh_X10_isWord, List.forall_mem_cons.mpr ⟨oh_X10_emit, List.forall_mem_cons.mpr ⟨oh_X10_push, List.forall_mem_cons.mpr ⟨oh_X10_rank, List.forall_mem_cons.mpr ⟨oh_X10_settle, List.forall_mem_cons.mpr ⟨oh_X10_whole, List.forall_mem_cons.mpr ⟨oh_X10_marker, List.forall_mem_cons.mpr ⟨oh_X10_kindOpen, List.forall_mem_cons.mpr ⟨oh_X10_isCompared, List.forall_mem_cons.mpr ⟨oh_X10_isAskAhead, List.forall_mem_cons.mpr ⟨oh_X10_opensBy, List.forall_mem_cons.mpr ⟨oh_X10_beginOne, List.forall_mem_cons.mpr ⟨oh_X10_compareOf, List.forall_mem_cons.mpr ⟨oh_X10_betweenOf, List.forall_mem_cons.mpr ⟨oh_X10_behindOne, List.forall_mem_cons.mpr ⟨oh_X10_parsed, List.forall_mem_cons.mpr ⟨oh_X10_nameOf, List.forall_mem_cons.mpr ⟨oh_X10_isOf, List.forall_mem_cons.mpr ⟨oh_X10_sortOf, List.forall_mem_cons.mpr ⟨oh_X10_figure, List.forall_mem_cons.mpr ⟨oh_X10_isTo, List.forall_mem_cons.mpr ⟨oh_X10_person, List.forall_mem_cons.mpr ⟨oh_X10_payment, List.forall_mem_cons.mpr ⟨oh_X10_line, List.forall_mem_cons.mpr ⟨oh_X10_clause, List.forall_mem_cons.mpr ⟨oh_X10_readText, List.forall_mem_cons.mpr ⟨oh_X10_text, List.forall_mem_cons.mpr ⟨oh_X10_fault, List.forall_mem_cons.mpr ⟨oh_X10_by, List.forall_mem_cons.mpr ⟨oh_X10_clip, List.forall_mem_cons.mpr ⟨oh_X10_two, List.forall_mem_cons.mpr ⟨oh_X10_isAsked, List.forall_mem_cons.mpr ⟨oh_X10_work, List.forall_mem_cons.mpr ⟨oh_X10_sumOf, List.forall_mem_cons.mpr ⟨oh_X10_rubsOf, List.forall_mem_cons.mpr ⟨oh_X10_keep, List.forall_mem_cons.mpr ⟨oh_X10_undo, List.forall_mem_cons.mpr ⟨oh_X10_grant, List.forall_mem_cons.mpr ⟨oh_X10_pay, List.forall_mem_cons.mpr ⟨oh_X10_passOne, List.forall_mem_cons.mpr ⟨oh_X10_pass, List.forall_mem_cons.mpr ⟨oh_X10_isPlayed, List.forall_mem_cons.mpr ⟨oh_X10_played, List.forall_mem_cons.mpr ⟨oh_X10_marks, List.forall_mem_cons.mpr ⟨oh_X10_common, List.forall_mem_cons.mpr ⟨oh_X10_lowerOf, List.forall_mem_cons.mpr ⟨oh_X10_share, List.forall_mem_cons.mpr ⟨oh_X10_owes, List.forall_mem_cons.mpr ⟨oh_X10_balanceOf, List.forall_mem_cons.mpr ⟨oh_X10_lowestOf, List.forall_mem_cons.mpr ⟨oh_X10_partOf, List.forall_mem_cons.mpr ⟨oh_X10_findMost, List.forall_mem_cons.mpr ⟨oh_X10_pairOff, List.forall_mem_cons.mpr ⟨oh_X10_net, List.forall_mem_cons.mpr ⟨oh_X10_netted, List.forall_mem_cons.mpr ⟨oh_X10_findLowers, List.forall_mem_cons.mpr ⟨oh_X10_nextFree, List.forall_mem_cons.mpr ⟨oh_X10_canMarry, List.forall_mem_cons.mpr ⟨oh_X10_free, List.forall_mem_cons.mpr ⟨oh_X10_sumOfAll, List.forall_mem_cons.mpr ⟨oh_X10_marry, List.forall_mem_cons.mpr ⟨oh_X10_married, List.forall_mem_cons.mpr ⟨oh_X10_bell, List.forall_mem_cons.mpr ⟨oh_X10_costOf, List.forall_mem_cons.mpr ⟨oh_X10_cost, List.forall_mem_cons.mpr ⟨oh_X10_best, List.forall_mem_cons.mpr ⟨oh_X10_seen, List.forall_mem_cons.mpr ⟨oh_X10_canBe, List.forall_mem_cons.mpr ⟨oh_X10_rubbed, List.forall_mem_cons.mpr ⟨oh_X10_image, List.forall_mem_cons.mpr ⟨oh_X10_back, List.forall_mem_cons.mpr ⟨oh_X10_about, List.forall_mem_cons.mpr ⟨oh_J6_numberOfTrailingZeros_0f7a4, List.forall_mem_cons.mpr ⟨oh_J6_bitCount_0f7a4, List.forall_mem_cons.mpr ⟨oh_J7_copyOf_59c91, fun _ h => absurd h List.not_mem_nil⟩⟩⟩⟩⟩⟩⟩⟩⟩⟩⟩⟩⟩⟩⟩⟩⟩⟩⟩⟩⟩⟩⟩⟩⟩⟩⟩⟩⟩⟩⟩⟩⟩⟩⟩⟩⟩⟩⟩⟩⟩⟩⟩⟩⟩⟩⟩⟩⟩⟩⟩⟩⟩⟩⟩⟩⟩⟩⟩⟩⟩⟩⟩⟩⟩⟩⟩⟩⟩⟩⟩⟩⟩⟩⟩⟩⟩⟩⟩⟩⟩⟩⟩⟩⟩⟩⟩⟩⟩⟩⟩⟩⟩⟩⟩⟩⟩⟩⟩⟩⟩⟩⟩⟩⟩⟩⟩⟩⟩⟩⟩⟩⟩⟩⟩⟩⟩⟩⟩⟩⟩⟩⟩⟩⟩⟩⟩⟩⟩⟩⟩⟩⟩⟩⟩⟩⟩⟩⟩⟩⟩⟩⟩⟩⟩⟩⟩⟩⟩⟩⟩⟩⟩⟩⟩⟩⟩⟩⟩⟩⟩⟩⟩⟩⟩⟩⟩⟩⟩⟩⟩⟩⟩⟩⟩⟩⟩⟩⟩⟩⟩⟩⟩⟩⟩⟩⟩⟩⟩⟩⟩⟩⟩⟩⟩⟩⟩⟩⟩⟩⟩⟩⟩⟩⟩⟩⟩⟩⟩⟩⟩⟩⟩⟩⟩
