theorem ok_mX9_standAt : ae_okM mX9_standAt = true := by decide +kernel
theorem ok_mX9_beginAsTold : ae_okM mX9_beginAsTold = true := by decide +kernel
theorem okc_mX9_init_0 : ae_okL mX9_init (List.take 86 (ae_il mX9_init)) 0 = true := by decide +kernel
theorem okc_mX9_init_86 : ae_okL mX9_init (List.drop 86 (ae_il mX9_init)) 86 = true := by decide +kernel
theorem okp_mX9_init : plainFor mX9_init.1 = true := by decide +kernel
theorem ok_mX9_write : ae_okM mX9_write = true := by decide +kernel
theorem ok_mX9_erase : ae_okM mX9_erase = true := by decide +kernel
theorem ok_mX9_fault : ae_okM mX9_fault = true := by decide +kernel
theorem ok_mX9_gaol : ae_okM mX9_gaol = true := by decide +kernel
theorem ok_mX9_guardsIn : ae_okM mX9_guardsIn = true := by decide +kernel
theorem ok_mX9_room : ae_okM mX9_room = true := by decide +kernel
theorem ok_mX9_door : ae_okM mX9_door = true := by decide +kernel
theorem ok_mX9_isUnder : ae_okM mX9_isUnder = true := by decide +kernel
theorem okc_mX9_as_0 : ae_okL mX9_as (List.take 77 (ae_il mX9_as)) 0 = true := by decide +kernel
theorem okc_mX9_as_77 : ae_okL mX9_as (List.drop 77 (ae_il mX9_as)) 77 = true := by decide +kernel
theorem okp_mX9_as : plainFor mX9_as.1 = true := by decide +kernel
theorem ok_mX9_isCode : ae_okM mX9_isCode = true := by decide +kernel
theorem ok_mX9_act : ae_okM mX9_act = true := by decide +kernel
theorem ok_mX9_codesOf : ae_okM mX9_codesOf = true := by decide +kernel
theorem ok_mX9_guard : ae_okM mX9_guard = true := by decide +kernel
theorem ok_mX9_fewest : ae_okM mX9_fewest = true := by decide +kernel
theorem ok_mX9_by : ae_okM mX9_by = true := by decide +kernel
theorem ok_mX9_worth : ae_okM mX9_worth = true := by decide +kernel
theorem ok_mX9_out : ae_okM mX9_out = true := by decide +kernel
theorem ok_mX9_stickingIn : ae_okM mX9_stickingIn = true := by decide +kernel
theorem ok_mX9_odds : ae_okM mX9_odds = true := by decide +kernel
theorem ok_mX9_row : ae_okM mX9_row = true := by decide +kernel
theorem ok_mX9_burn : ae_okM mX9_burn = true := by decide +kernel
theorem ok_mX9_judge : ae_okM mX9_judge = true := by decide +kernel
theorem ok_mX9_heard : ae_okM mX9_heard = true := by decide +kernel
theorem ok_mX9_forget : ae_okM mX9_forget = true := by decide +kernel
theorem ok_mX9_isNight : ae_okM mX9_isNight = true := by decide +kernel
theorem ok_mX9_night : ae_okM mX9_night = true := by decide +kernel
theorem ok_mX9_ask : ae_okM mX9_ask = true := by decide +kernel
theorem ok_mX9_keep : ae_okM mX9_keep = true := by decide +kernel
theorem ok_mX9_back : ae_okM mX9_back = true := by decide +kernel
theorem ok_mX9_count : ae_okM mX9_count = true := by decide +kernel
theorem okc_mX10_begin_0 : ae_okL mX10_begin (List.take 63 (ae_il mX10_begin)) 0 = true := by decide +kernel
theorem okc_mX10_begin_63 : ae_okL mX10_begin (List.drop 63 (ae_il mX10_begin)) 63 = true := by decide +kernel
theorem okp_mX10_begin : plainFor mX10_begin.1 = true := by decide +kernel
theorem okc_mX10_init_0 : ae_okL mX10_init (List.take 77 (ae_il mX10_init)) 0 = true := by decide +kernel
theorem okc_mX10_init_77 : ae_okL mX10_init (List.drop 77 (ae_il mX10_init)) 77 = true := by decide +kernel
theorem okp_mX10_init : plainFor mX10_init.1 = true := by decide +kernel
theorem ok_mX10_in : ae_okM mX10_in = true := by decide +kernel
theorem ok_mX10_has : ae_okM mX10_has = true := by decide +kernel
theorem ok_mX10_bits : ae_okM mX10_bits = true := by decide +kernel
theorem ok_mX10_write : ae_okM mX10_write = true := by decide +kernel
theorem ok_mX10_erase : ae_okM mX10_erase = true := by decide +kernel
theorem ok_mX10_sort : ae_okM mX10_sort = true := by decide +kernel
theorem okc_mX10_token_0 : ae_okL mX10_token (List.take 79 (ae_il mX10_token)) 0 = true := by decide +kernel
theorem okc_mX10_token_79 : ae_okL mX10_token (List.drop 79 (ae_il mX10_token)) 79 = true := by decide +kernel
theorem okp_mX10_token : plainFor mX10_token.1 = true := by decide +kernel
theorem ok_mX10_isWord : ae_okM mX10_isWord = true := by decide +kernel
theorem ok_mX10_doorWord : ae_okM mX10_doorWord = true := by decide +kernel
