theorem ok_mX10_row : ae_okM mX10_row = true := by decide +kernel
theorem ok_mX10_burn : ae_okM mX10_burn = true := by decide +kernel
theorem ok_mX10_judge : ae_okM mX10_judge = true := by decide +kernel
theorem okc_mX10_heard_0 : ae_okL mX10_heard (List.take 66 (ae_il mX10_heard)) 0 = true := by decide +kernel
theorem okc_mX10_heard_66 : ae_okL mX10_heard (List.drop 66 (ae_il mX10_heard)) 66 = true := by decide +kernel
theorem okp_mX10_heard : plainFor mX10_heard.1 = true := by decide +kernel
theorem ok_mX10_forget : ae_okM mX10_forget = true := by decide +kernel
theorem ok_mX10_fits : ae_okM mX10_fits = true := by decide +kernel
theorem okc_mX10_leads_0 : ae_okL mX10_leads (List.take 67 (ae_il mX10_leads)) 0 = true := by decide +kernel
theorem okc_mX10_leads_67 : ae_okL mX10_leads (List.take 68 (List.drop 67 (ae_il mX10_leads))) 67 = true := by decide +kernel
theorem okc_mX10_leads_135 : ae_okL mX10_leads (List.drop 68 (List.drop 67 (ae_il mX10_leads))) 135 = true := by decide +kernel
theorem okp_mX10_leads : plainFor mX10_leads.1 = true := by decide +kernel
theorem okc_mX10_layNight_0 : ae_okL mX10_layNight (List.take 65 (ae_il mX10_layNight)) 0 = true := by decide +kernel
theorem okc_mX10_layNight_65 : ae_okL mX10_layNight (List.take 72 (List.drop 65 (ae_il mX10_layNight))) 65 = true := by decide +kernel
theorem okc_mX10_layNight_137 : ae_okL mX10_layNight (List.take 65 (List.drop 72 (List.drop 65 (ae_il mX10_layNight)))) 137 = true := by decide +kernel
theorem okc_mX10_layNight_202 : ae_okL mX10_layNight (List.drop 65 (List.drop 72 (List.drop 65 (ae_il mX10_layNight)))) 202 = true := by decide +kernel
theorem okp_mX10_layNight : plainFor mX10_layNight.1 = true := by decide +kernel
theorem ok_mX10_isNight : ae_okM mX10_isNight = true := by decide +kernel
theorem okc_mX10_night_0 : ae_okL mX10_night (List.take 67 (ae_il mX10_night)) 0 = true := by decide +kernel
theorem okc_mX10_night_67 : ae_okL mX10_night (List.drop 67 (ae_il mX10_night)) 67 = true := by decide +kernel
theorem okp_mX10_night : plainFor mX10_night.1 = true := by decide +kernel
theorem okc_mX10_ask_0 : ae_okL mX10_ask (List.take 68 (ae_il mX10_ask)) 0 = true := by decide +kernel
theorem okc_mX10_ask_68 : ae_okL mX10_ask (List.drop 68 (ae_il mX10_ask)) 68 = true := by decide +kernel
theorem okp_mX10_ask : plainFor mX10_ask.1 = true := by decide +kernel
theorem ok_mX10_keep : ae_okM mX10_keep = true := by decide +kernel
theorem ok_mX10_back : ae_okM mX10_back = true := by decide +kernel
theorem ok_mX10_count : ae_okM mX10_count = true := by decide +kernel
theorem ok_mJ9_max_f86c9 : ae_okM mJ9_max_f86c9 = true := by decide +kernel
theorem okc_mL_law_0 : ae_okL mL_law (List.take 165 (ae_il mL_law)) 0 = true := by decide +kernel
theorem okc_mL_law_165 : ae_okL mL_law (List.take 55 (List.drop 165 (ae_il mL_law))) 165 = true := by decide +kernel
theorem okc_mL_law_220 : ae_okL mL_law (List.take 56 (List.drop 55 (List.drop 165 (ae_il mL_law)))) 220 = true := by decide +kernel
theorem okc_mL_law_276 : ae_okL mL_law (List.take 50 (List.drop 56 (List.drop 55 (List.drop 165 (ae_il mL_law))))) 276 = true := by decide +kernel
theorem okc_mL_law_326 : ae_okL mL_law (List.take 50 (List.drop 50 (List.drop 56 (List.drop 55 (List.drop 165 (ae_il mL_law)))))) 326 = true := by decide +kernel
theorem okc_mL_law_376 : ae_okL mL_law (List.take 52 (List.drop 50 (List.drop 50 (List.drop 56 (List.drop 55 (List.drop 165 (ae_il mL_law))))))) 376 = true := by decide +kernel
theorem okc_mL_law_428 : ae_okL mL_law (List.take 54 (List.drop 52 (List.drop 50 (List.drop 50 (List.drop 56 (List.drop 55 (List.drop 165 (ae_il mL_law)))))))) 428 = true := by decide +kernel
theorem okc_mL_law_482 : ae_okL mL_law (List.take 46 (List.drop 54 (List.drop 52 (List.drop 50 (List.drop 50 (List.drop 56 (List.drop 55 (List.drop 165 (ae_il mL_law))))))))) 482 = true := by decide +kernel
theorem okc_mL_law_528 : ae_okL mL_law (List.take 62 (List.drop 46 (List.drop 54 (List.drop 52 (List.drop 50 (List.drop 50 (List.drop 56 (List.drop 55 (List.drop 165 (ae_il mL_law)))))))))) 528 = true := by decide +kernel
theorem okc_mL_law_590 : ae_okL mL_law (List.take 52 (List.drop 62 (List.drop 46 (List.drop 54 (List.drop 52 (List.drop 50 (List.drop 50 (List.drop 56 (List.drop 55 (List.drop 165 (ae_il mL_law))))))))))) 590 = true := by decide +kernel
theorem okc_mL_law_642 : ae_okL mL_law (List.take 54 (List.drop 52 (List.drop 62 (List.drop 46 (List.drop 54 (List.drop 52 (List.drop 50 (List.drop 50 (List.drop 56 (List.drop 55 (List.drop 165 (ae_il mL_law)))))))))))) 642 = true := by decide +kernel
theorem okc_mL_law_696 : ae_okL mL_law (List.take 52 (List.drop 54 (List.drop 52 (List.drop 62 (List.drop 46 (List.drop 54 (List.drop 52 (List.drop 50 (List.drop 50 (List.drop 56 (List.drop 55 (List.drop 165 (ae_il mL_law))))))))))))) 696 = true := by decide +kernel
theorem okc_mL_law_748 : ae_okL mL_law (List.drop 52 (List.drop 54 (List.drop 52 (List.drop 62 (List.drop 46 (List.drop 54 (List.drop 52 (List.drop 50 (List.drop 50 (List.drop 56 (List.drop 55 (List.drop 165 (ae_il mL_law))))))))))))) 748 = true := by decide +kernel
theorem okp_mL_law : plainFor mL_law.1 = true := by decide +kernel
theorem ok_mX1_rowFor0 : ae_okM mX1_rowFor0 = true := by decide +kernel
theorem ok_mX9_worth1 : ae_okM mX9_worth1 = true := by decide +kernel
