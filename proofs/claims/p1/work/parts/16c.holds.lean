theorem okc_mX10_layStanding_0 : ae_okL mX10_layStanding (List.take 62 (ae_il mX10_layStanding)) 0 = true := by decide +kernel
theorem okc_mX10_layStanding_62 : ae_okL mX10_layStanding (List.take 100 (List.drop 62 (ae_il mX10_layStanding))) 62 = true := by decide +kernel
theorem okc_mX10_layStanding_162 : ae_okL mX10_layStanding (List.drop 100 (List.drop 62 (ae_il mX10_layStanding))) 162 = true := by decide +kernel
theorem okp_mX10_layStanding : plainFor mX10_layStanding.1 = true := by decide +kernel
theorem ok_mX10_isEnd : ae_okM mX10_isEnd = true := by decide +kernel
theorem ok_mX10_search : ae_okM mX10_search = true := by decide +kernel
theorem ok_mX10_layActs : ae_okM mX10_layActs = true := by decide +kernel
theorem ok_mX10_toldActs : ae_okM mX10_toldActs = true := by decide +kernel
theorem ok_mX10_fewest : ae_okM mX10_fewest = true := by decide +kernel
theorem ok_mX10_by : ae_okM mX10_by = true := by decide +kernel
theorem ok_mX10_worth : ae_okM mX10_worth = true := by decide +kernel
theorem ok_mX10_out : ae_okM mX10_out = true := by decide +kernel
theorem ok_mX10_divisor : ae_okM mX10_divisor = true := by decide +kernel
theorem ok_mX10_power : ae_okM mX10_power = true := by decide +kernel
theorem ok_mX10_stuck : ae_okM mX10_stuck = true := by decide +kernel
theorem okc_mX10_odds_0 : ae_okL mX10_odds (List.take 80 (ae_il mX10_odds)) 0 = true := by decide +kernel
theorem okc_mX10_odds_80 : ae_okL mX10_odds (List.take 70 (List.drop 80 (ae_il mX10_odds))) 80 = true := by decide +kernel
theorem okc_mX10_odds_150 : ae_okL mX10_odds (List.drop 70 (List.drop 80 (ae_il mX10_odds))) 150 = true := by decide +kernel
theorem okp_mX10_odds : plainFor mX10_odds.1 = true := by decide +kernel
theorem ok_mX10_row : ae_okM mX10_row = true := by decide +kernel
theorem ok_mX10_burn : ae_okM mX10_burn = true := by decide +kernel
theorem ok_mX10_judge : ae_okM mX10_judge = true := by decide +kernel
theorem ok_mX10_heard : ae_okM mX10_heard = true := by decide +kernel
theorem ok_mX10_forget : ae_okM mX10_forget = true := by decide +kernel
theorem ok_mX10_fits : ae_okM mX10_fits = true := by decide +kernel
theorem ok_mX10_leads : ae_okM mX10_leads = true := by decide +kernel
theorem okc_mX10_layNight_0 : ae_okL mX10_layNight (List.take 65 (ae_il mX10_layNight)) 0 = true := by decide +kernel
theorem okc_mX10_layNight_65 : ae_okL mX10_layNight (List.take 72 (List.drop 65 (ae_il mX10_layNight))) 65 = true := by decide +kernel
theorem okc_mX10_layNight_137 : ae_okL mX10_layNight (List.take 65 (List.drop 72 (List.drop 65 (ae_il mX10_layNight)))) 137 = true := by decide +kernel
theorem okc_mX10_layNight_202 : ae_okL mX10_layNight (List.drop 65 (List.drop 72 (List.drop 65 (ae_il mX10_layNight)))) 202 = true := by decide +kernel
theorem okp_mX10_layNight : plainFor mX10_layNight.1 = true := by decide +kernel
theorem ok_mX10_isNight : ae_okM mX10_isNight = true := by decide +kernel
theorem okc_mX10_night_0 : ae_okL mX10_night (List.take 67 (ae_il mX10_night)) 0 = true := by decide +kernel
theorem okc_mX10_night_67 : ae_okL mX10_night (List.drop 67 (ae_il mX10_night)) 67 = true := by decide +kernel
theorem okp_mX10_night : plainFor mX10_night.1 = true := by decide +kernel
theorem okc_mX10_ask_0 : ae_okL mX10_ask (List.take 68 (ae_il mX10_ask)) 0 = true := by decide +kernel
theorem okc_mX10_ask_68 : ae_okL mX10_ask (List.drop 68 (ae_il mX10_ask)) 68 = true := by decide +kernel
theorem okp_mX10_ask : plainFor mX10_ask.1 = true := by decide +kernel
theorem ok_mX10_keep : ae_okM mX10_keep = true := by decide +kernel
theorem ok_mX10_back : ae_okM mX10_back = true := by decide +kernel
theorem ok_mX10_count : ae_okM mX10_count = true := by decide +kernel
theorem ok_mJ9_max_f86c9 : ae_okM mJ9_max_f86c9 = true := by decide +kernel
theorem okc_mL_law_0 : ae_okL mL_law (List.take 165 (ae_il mL_law)) 0 = true := by decide +kernel
theorem okc_mL_law_165 : ae_okL mL_law (List.take 63 (List.drop 165 (ae_il mL_law))) 165 = true := by decide +kernel
theorem okc_mL_law_228 : ae_okL mL_law (List.take 60 (List.drop 63 (List.drop 165 (ae_il mL_law)))) 228 = true := by decide +kernel
theorem okc_mL_law_288 : ae_okL mL_law (List.take 52 (List.drop 60 (List.drop 63 (List.drop 165 (ae_il mL_law))))) 288 = true := by decide +kernel
theorem okc_mL_law_340 : ae_okL mL_law (List.take 56 (List.drop 52 (List.drop 60 (List.drop 63 (List.drop 165 (ae_il mL_law)))))) 340 = true := by decide +kernel
theorem okc_mL_law_396 : ae_okL mL_law (List.take 62 (List.drop 56 (List.drop 52 (List.drop 60 (List.drop 63 (List.drop 165 (ae_il mL_law))))))) 396 = true := by decide +kernel
theorem okc_mL_law_458 : ae_okL mL_law (List.take 56 (List.drop 62 (List.drop 56 (List.drop 52 (List.drop 60 (List.drop 63 (List.drop 165 (ae_il mL_law)))))))) 458 = true := by decide +kernel
theorem okc_mL_law_514 : ae_okL mL_law (List.take 64 (List.drop 56 (List.drop 62 (List.drop 56 (List.drop 52 (List.drop 60 (List.drop 63 (List.drop 165 (ae_il mL_law))))))))) 514 = true := by decide +kernel
theorem okc_mL_law_578 : ae_okL mL_law (List.take 62 (List.drop 64 (List.drop 56 (List.drop 62 (List.drop 56 (List.drop 52 (List.drop 60 (List.drop 63 (List.drop 165 (ae_il mL_law)))))))))) 578 = true := by decide +kernel
theorem okc_mL_law_640 : ae_okL mL_law (List.take 58 (List.drop 62 (List.drop 64 (List.drop 56 (List.drop 62 (List.drop 56 (List.drop 52 (List.drop 60 (List.drop 63 (List.drop 165 (ae_il mL_law))))))))))) 640 = true := by decide +kernel
theorem okc_mL_law_698 : ae_okL mL_law (List.take 66 (List.drop 58 (List.drop 62 (List.drop 64 (List.drop 56 (List.drop 62 (List.drop 56 (List.drop 52 (List.drop 60 (List.drop 63 (List.drop 165 (ae_il mL_law)))))))))))) 698 = true := by decide +kernel
theorem okc_mL_law_764 : ae_okL mL_law (List.drop 66 (List.drop 58 (List.drop 62 (List.drop 64 (List.drop 56 (List.drop 62 (List.drop 56 (List.drop 52 (List.drop 60 (List.drop 63 (List.drop 165 (ae_il mL_law)))))))))))) 764 = true := by decide +kernel
theorem okp_mL_law : plainFor mL_law.1 = true := by decide +kernel
