theorem okc_mX10_stays_0 : ae_okL mX10_stays (List.take 65 (ae_il mX10_stays)) 0 = true := by decide +kernel
theorem okc_mX10_stays_65 : ae_okL mX10_stays (List.take 76 (List.drop 65 (ae_il mX10_stays))) 65 = true := by decide +kernel
theorem okc_mX10_stays_141 : ae_okL mX10_stays (List.take 60 (List.drop 76 (List.drop 65 (ae_il mX10_stays)))) 141 = true := by decide +kernel
theorem okc_mX10_stays_201 : ae_okL mX10_stays (List.drop 60 (List.drop 76 (List.drop 65 (ae_il mX10_stays)))) 201 = true := by decide +kernel
theorem okp_mX10_stays : plainFor mX10_stays.1 = true := by decide +kernel
theorem okc_mX10_does_0 : ae_okL mX10_does (List.take 69 (ae_il mX10_does)) 0 = true := by decide +kernel
theorem okc_mX10_does_69 : ae_okL mX10_does (List.drop 69 (ae_il mX10_does)) 69 = true := by decide +kernel
theorem okp_mX10_does : plainFor mX10_does.1 = true := by decide +kernel
theorem ok_mX10_isCode : ae_okM mX10_isCode = true := by decide +kernel
theorem ok_mX10_act : ae_okM mX10_act = true := by decide +kernel
theorem okc_mX10_guard_0 : ae_okL mX10_guard (List.take 65 (ae_il mX10_guard)) 0 = true := by decide +kernel
theorem okc_mX10_guard_65 : ae_okL mX10_guard (List.drop 65 (ae_il mX10_guard)) 65 = true := by decide +kernel
theorem okp_mX10_guard : plainFor mX10_guard.1 = true := by decide +kernel
theorem ok_mX10_hungryCode : ae_okM mX10_hungryCode = true := by decide +kernel
theorem ok_mX10_hungryOf : ae_okM mX10_hungryOf = true := by decide +kernel
theorem okc_mX10_numberOf_0 : ae_okL mX10_numberOf (List.take 60 (ae_il mX10_numberOf)) 0 = true := by decide +kernel
theorem okc_mX10_numberOf_60 : ae_okL mX10_numberOf (List.take 55 (List.drop 60 (ae_il mX10_numberOf))) 60 = true := by decide +kernel
theorem okc_mX10_numberOf_115 : ae_okL mX10_numberOf (List.drop 55 (List.drop 60 (ae_il mX10_numberOf))) 115 = true := by decide +kernel
theorem okp_mX10_numberOf : plainFor mX10_numberOf.1 = true := by decide +kernel
theorem okc_mX10_layStanding_0 : ae_okL mX10_layStanding (List.take 59 (ae_il mX10_layStanding)) 0 = true := by decide +kernel
theorem okc_mX10_layStanding_59 : ae_okL mX10_layStanding (List.take 72 (List.drop 59 (ae_il mX10_layStanding))) 59 = true := by decide +kernel
theorem okc_mX10_layStanding_131 : ae_okL mX10_layStanding (List.drop 72 (List.drop 59 (ae_il mX10_layStanding))) 131 = true := by decide +kernel
theorem okp_mX10_layStanding : plainFor mX10_layStanding.1 = true := by decide +kernel
theorem ok_mX10_isEnd : ae_okM mX10_isEnd = true := by decide +kernel
theorem okc_mX10_may_0 : ae_okL mX10_may (List.take 64 (ae_il mX10_may)) 0 = true := by decide +kernel
theorem okc_mX10_may_64 : ae_okL mX10_may (List.take 77 (List.drop 64 (ae_il mX10_may))) 64 = true := by decide +kernel
theorem okc_mX10_may_141 : ae_okL mX10_may (List.drop 77 (List.drop 64 (ae_il mX10_may))) 141 = true := by decide +kernel
theorem okp_mX10_may : plainFor mX10_may.1 = true := by decide +kernel
theorem ok_mX10_tries : ae_okM mX10_tries = true := by decide +kernel
theorem okc_mX10_open_0 : ae_okL mX10_open (List.take 67 (ae_il mX10_open)) 0 = true := by decide +kernel
theorem okc_mX10_open_67 : ae_okL mX10_open (List.drop 67 (ae_il mX10_open)) 67 = true := by decide +kernel
theorem okp_mX10_open : plainFor mX10_open.1 = true := by decide +kernel
theorem okc_mX10_search_0 : ae_okL mX10_search (List.take 63 (ae_il mX10_search)) 0 = true := by decide +kernel
theorem okc_mX10_search_63 : ae_okL mX10_search (List.drop 63 (ae_il mX10_search)) 63 = true := by decide +kernel
theorem okp_mX10_search : plainFor mX10_search.1 = true := by decide +kernel
theorem ok_mX10_goodFrom : ae_okM mX10_goodFrom = true := by decide +kernel
theorem okc_mX10_layActs_0 : ae_okL mX10_layActs (List.take 72 (ae_il mX10_layActs)) 0 = true := by decide +kernel
theorem okc_mX10_layActs_72 : ae_okL mX10_layActs (List.take 68 (List.drop 72 (ae_il mX10_layActs))) 72 = true := by decide +kernel
theorem okc_mX10_layActs_140 : ae_okL mX10_layActs (List.drop 68 (List.drop 72 (ae_il mX10_layActs))) 140 = true := by decide +kernel
theorem okp_mX10_layActs : plainFor mX10_layActs.1 = true := by decide +kernel
theorem ok_mX10_toldActs : ae_okM mX10_toldActs = true := by decide +kernel
theorem ok_mX10_fewest : ae_okM mX10_fewest = true := by decide +kernel
theorem ok_mX10_by : ae_okM mX10_by = true := by decide +kernel
theorem okc_mX10_worth_0 : ae_okL mX10_worth (List.take 58 (ae_il mX10_worth)) 0 = true := by decide +kernel
theorem okc_mX10_worth_58 : ae_okL mX10_worth (List.drop 58 (ae_il mX10_worth)) 58 = true := by decide +kernel
theorem okp_mX10_worth : plainFor mX10_worth.1 = true := by decide +kernel
theorem ok_mX10_out : ae_okM mX10_out = true := by decide +kernel
theorem ok_mX10_divisor : ae_okM mX10_divisor = true := by decide +kernel
theorem ok_mX10_power : ae_okM mX10_power = true := by decide +kernel
theorem okc_mX10_stuck_0 : ae_okL mX10_stuck (List.take 65 (ae_il mX10_stuck)) 0 = true := by decide +kernel
theorem okc_mX10_stuck_65 : ae_okL mX10_stuck (List.drop 65 (ae_il mX10_stuck)) 65 = true := by decide +kernel
theorem okp_mX10_stuck : plainFor mX10_stuck.1 = true := by decide +kernel
theorem okc_mX10_odds_0 : ae_okL mX10_odds (List.take 76 (ae_il mX10_odds)) 0 = true := by decide +kernel
theorem okc_mX10_odds_76 : ae_okL mX10_odds (List.take 68 (List.drop 76 (ae_il mX10_odds))) 76 = true := by decide +kernel
theorem okc_mX10_odds_144 : ae_okL mX10_odds (List.drop 68 (List.drop 76 (ae_il mX10_odds))) 144 = true := by decide +kernel
theorem okp_mX10_odds : plainFor mX10_odds.1 = true := by decide +kernel
