theorem ok_mX9_write : ae_okM mX9_write = true := by decide +kernel
theorem ok_mX9_erase : ae_okM mX9_erase = true := by decide +kernel
theorem ok_mX9_fault : ae_okM mX9_fault = true := by decide +kernel
theorem ok_mX9_gaol : ae_okM mX9_gaol = true := by decide +kernel
theorem ok_mX9_guardsIn : ae_okM mX9_guardsIn = true := by decide +kernel
theorem ok_mX9_room : ae_okM mX9_room = true := by decide +kernel
theorem ok_mX9_door : ae_okM mX9_door = true := by decide +kernel
theorem ok_mX9_as : ae_okM mX9_as = true := by decide +kernel
theorem ok_mX9_isCode : ae_okM mX9_isCode = true := by decide +kernel
theorem ok_mX9_act : ae_okM mX9_act = true := by decide +kernel
theorem ok_mX9_codesOf : ae_okM mX9_codesOf = true := by decide +kernel
theorem ok_mX9_guard : ae_okM mX9_guard = true := by decide +kernel
theorem ok_mX9_fewest : ae_okM mX9_fewest = true := by decide +kernel
theorem ok_mX9_by : ae_okM mX9_by = true := by decide +kernel
theorem ok_mX9_worth : ae_okM mX9_worth = true := by decide +kernel
theorem ok_mX9_out : ae_okM mX9_out = true := by decide +kernel
theorem ok_mX9_stickingIn : ae_okM mX9_stickingIn = true := by decide +kernel
theorem ok_mX9_odds : ae_okM mX9_odds = true := by decide +kernel
theorem ok_mX9_row : ae_okM mX9_row = true := by decide +kernel
theorem ok_mX9_burn : ae_okM mX9_burn = true := by decide +kernel
theorem ok_mX9_judge : ae_okM mX9_judge = true := by decide +kernel
theorem ok_mX9_heard : ae_okM mX9_heard = true := by decide +kernel
theorem ok_mX9_forget : ae_okM mX9_forget = true := by decide +kernel
theorem ok_mX9_isNight : ae_okM mX9_isNight = true := by decide +kernel
theorem ok_mX9_night : ae_okM mX9_night = true := by decide +kernel
theorem ok_mX9_ask : ae_okM mX9_ask = true := by decide +kernel
theorem ok_mX9_keep : ae_okM mX9_keep = true := by decide +kernel
theorem ok_mX9_back : ae_okM mX9_back = true := by decide +kernel
theorem ok_mX9_count : ae_okM mX9_count = true := by decide +kernel
theorem okc_mX10_begin_0 : ae_okL mX10_begin (List.take 63 (ae_il mX10_begin)) 0 = true := by decide +kernel
theorem okc_mX10_begin_63 : ae_okL mX10_begin (List.drop 63 (ae_il mX10_begin)) 63 = true := by decide +kernel
theorem okp_mX10_begin : plainFor mX10_begin.1 = true := by decide +kernel
theorem okc_mX10_init_0 : ae_okL mX10_init (List.take 77 (ae_il mX10_init)) 0 = true := by decide +kernel
theorem okc_mX10_init_77 : ae_okL mX10_init (List.drop 77 (ae_il mX10_init)) 77 = true := by decide +kernel
theorem okp_mX10_init : plainFor mX10_init.1 = true := by decide +kernel
theorem ok_mX10_in : ae_okM mX10_in = true := by decide +kernel
theorem ok_mX10_has : ae_okM mX10_has = true := by decide +kernel
theorem ok_mX10_write : ae_okM mX10_write = true := by decide +kernel
theorem ok_mX10_erase : ae_okM mX10_erase = true := by decide +kernel
theorem ok_mX10_token : ae_okM mX10_token = true := by decide +kernel
theorem ok_mX10_isWord : ae_okM mX10_isWord = true := by decide +kernel
theorem ok_mX10_doorWord : ae_okM mX10_doorWord = true := by decide +kernel
theorem ok_mX10_wordOf : ae_okM mX10_wordOf = true := by decide +kernel
theorem ok_mX10_readsLine : ae_okM mX10_readsLine = true := by decide +kernel
theorem ok_mX10_fault : ae_okM mX10_fault = true := by decide +kernel
theorem ok_mX10_gaol : ae_okM mX10_gaol = true := by decide +kernel
theorem ok_mX10_isRoom : ae_okM mX10_isRoom = true := by decide +kernel
theorem ok_mX10_isDoor : ae_okM mX10_isDoor = true := by decide +kernel
theorem ok_mX10_isGuard : ae_okM mX10_isGuard = true := by decide +kernel
theorem okc_mX10_room_0 : ae_okL mX10_room (List.take 92 (ae_il mX10_room)) 0 = true := by decide +kernel
theorem okc_mX10_room_92 : ae_okL mX10_room (List.drop 92 (ae_il mX10_room)) 92 = true := by decide +kernel
theorem okp_mX10_room : plainFor mX10_room.1 = true := by decide +kernel
theorem ok_mX10_door : ae_okM mX10_door = true := by decide +kernel
theorem ok_mX10_as : ae_okM mX10_as = true := by decide +kernel
theorem ok_mX10_copy : ae_okM mX10_copy = true := by decide +kernel
theorem okc_mX10_stays_0 : ae_okL mX10_stays (List.take 73 (ae_il mX10_stays)) 0 = true := by decide +kernel
theorem okc_mX10_stays_73 : ae_okL mX10_stays (List.take 100 (List.drop 73 (ae_il mX10_stays))) 73 = true := by decide +kernel
theorem okc_mX10_stays_173 : ae_okL mX10_stays (List.drop 100 (List.drop 73 (ae_il mX10_stays))) 173 = true := by decide +kernel
theorem okp_mX10_stays : plainFor mX10_stays.1 = true := by decide +kernel
theorem ok_mX10_does : ae_okM mX10_does = true := by decide +kernel
theorem ok_mX10_isCode : ae_okM mX10_isCode = true := by decide +kernel
theorem ok_mX10_act : ae_okM mX10_act = true := by decide +kernel
theorem okc_mX10_guard_0 : ae_okL mX10_guard (List.take 65 (ae_il mX10_guard)) 0 = true := by decide +kernel
theorem okc_mX10_guard_65 : ae_okL mX10_guard (List.drop 65 (ae_il mX10_guard)) 65 = true := by decide +kernel
theorem okp_mX10_guard : plainFor mX10_guard.1 = true := by decide +kernel
theorem ok_mX10_hungryCode : ae_okM mX10_hungryCode = true := by decide +kernel
theorem ok_mX10_hungryOf : ae_okM mX10_hungryOf = true := by decide +kernel
theorem okc_mX10_numberOf_0 : ae_okL mX10_numberOf (List.take 70 (ae_il mX10_numberOf)) 0 = true := by decide +kernel
theorem okc_mX10_numberOf_70 : ae_okL mX10_numberOf (List.take 56 (List.drop 70 (ae_il mX10_numberOf))) 70 = true := by decide +kernel
theorem okc_mX10_numberOf_126 : ae_okL mX10_numberOf (List.drop 56 (List.drop 70 (ae_il mX10_numberOf))) 126 = true := by decide +kernel
theorem okp_mX10_numberOf : plainFor mX10_numberOf.1 = true := by decide +kernel
