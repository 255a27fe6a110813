theorem okc_mX10_wordOf_0 : ae_okL mX10_wordOf (List.take 85 (ae_il mX10_wordOf)) 0 = true := by decide +kernel
theorem okc_mX10_wordOf_85 : ae_okL mX10_wordOf (List.drop 85 (ae_il mX10_wordOf)) 85 = true := by decide +kernel
theorem okp_mX10_wordOf : plainFor mX10_wordOf.1 = true := by decide +kernel
theorem okc_mX10_reads_0 : ae_okL mX10_reads (List.take 75 (ae_il mX10_reads)) 0 = true := by decide +kernel
theorem okc_mX10_reads_75 : ae_okL mX10_reads (List.drop 75 (ae_il mX10_reads)) 75 = true := by decide +kernel
theorem okp_mX10_reads : plainFor mX10_reads.1 = true := by decide +kernel
theorem okc_mX10_readsHungry_0 : ae_okL mX10_readsHungry (List.take 68 (ae_il mX10_readsHungry)) 0 = true := by decide +kernel
theorem okc_mX10_readsHungry_68 : ae_okL mX10_readsHungry (List.drop 68 (ae_il mX10_readsHungry)) 68 = true := by decide +kernel
theorem okp_mX10_readsHungry : plainFor mX10_readsHungry.1 = true := by decide +kernel
theorem okc_mX10_readsRest_0 : ae_okL mX10_readsRest (List.take 118 (ae_il mX10_readsRest)) 0 = true := by decide +kernel
theorem okc_mX10_readsRest_118 : ae_okL mX10_readsRest (List.take 64 (List.drop 118 (ae_il mX10_readsRest))) 118 = true := by decide +kernel
theorem okc_mX10_readsRest_182 : ae_okL mX10_readsRest (List.drop 64 (List.drop 118 (ae_il mX10_readsRest))) 182 = true := by decide +kernel
theorem okp_mX10_readsRest : plainFor mX10_readsRest.1 = true := by decide +kernel
theorem ok_mX10_isDoorLine : ae_okM mX10_isDoorLine = true := by decide +kernel
theorem okc_mX10_readsLine_0 : ae_okL mX10_readsLine (List.take 69 (ae_il mX10_readsLine)) 0 = true := by decide +kernel
theorem okc_mX10_readsLine_69 : ae_okL mX10_readsLine (List.drop 69 (ae_il mX10_readsLine)) 69 = true := by decide +kernel
theorem okp_mX10_readsLine : plainFor mX10_readsLine.1 = true := by decide +kernel
theorem okc_mX10_fault_0 : ae_okL mX10_fault (List.take 78 (ae_il mX10_fault)) 0 = true := by decide +kernel
theorem okc_mX10_fault_78 : ae_okL mX10_fault (List.drop 78 (ae_il mX10_fault)) 78 = true := by decide +kernel
theorem okp_mX10_fault : plainFor mX10_fault.1 = true := by decide +kernel
theorem ok_mX10_clear : ae_okM mX10_clear = true := by decide +kernel
theorem okc_mX10_tellDoor_0 : ae_okL mX10_tellDoor (List.take 58 (ae_il mX10_tellDoor)) 0 = true := by decide +kernel
theorem okc_mX10_tellDoor_58 : ae_okL mX10_tellDoor (List.drop 58 (ae_il mX10_tellDoor)) 58 = true := by decide +kernel
theorem okp_mX10_tellDoor : plainFor mX10_tellDoor.1 = true := by decide +kernel
theorem okc_mX10_tell_0 : ae_okL mX10_tell (List.take 118 (ae_il mX10_tell)) 0 = true := by decide +kernel
theorem okc_mX10_tell_118 : ae_okL mX10_tell (List.drop 118 (ae_il mX10_tell)) 118 = true := by decide +kernel
theorem okp_mX10_tell : plainFor mX10_tell.1 = true := by decide +kernel
theorem ok_mX10_gaol : ae_okM mX10_gaol = true := by decide +kernel
theorem ok_mX10_isRoom : ae_okM mX10_isRoom = true := by decide +kernel
theorem ok_mX10_isDoor : ae_okM mX10_isDoor = true := by decide +kernel
theorem ok_mX10_isGuard : ae_okM mX10_isGuard = true := by decide +kernel
theorem okc_mX10_room_0 : ae_okL mX10_room (List.take 92 (ae_il mX10_room)) 0 = true := by decide +kernel
theorem okc_mX10_room_92 : ae_okL mX10_room (List.drop 92 (ae_il mX10_room)) 92 = true := by decide +kernel
theorem okp_mX10_room : plainFor mX10_room.1 = true := by decide +kernel
theorem ok_mX10_door : ae_okM mX10_door = true := by decide +kernel
theorem okc_mX10_as_0 : ae_okL mX10_as (List.take 65 (ae_il mX10_as)) 0 = true := by decide +kernel
theorem okc_mX10_as_65 : ae_okL mX10_as (List.take 71 (List.drop 65 (ae_il mX10_as))) 65 = true := by decide +kernel
theorem okc_mX10_as_136 : ae_okL mX10_as (List.drop 71 (List.drop 65 (ae_il mX10_as))) 136 = true := by decide +kernel
theorem okp_mX10_as : plainFor mX10_as.1 = true := by decide +kernel
theorem ok_mX10_copy : ae_okM mX10_copy = true := by decide +kernel
theorem ok_mX10_behind : ae_okM mX10_behind = true := by decide +kernel
theorem ok_mX10_opens : ae_okM mX10_opens = true := by decide +kernel
theorem okc_mX10_hands_0 : ae_okL mX10_hands (List.take 58 (ae_il mX10_hands)) 0 = true := by decide +kernel
theorem okc_mX10_hands_58 : ae_okL mX10_hands (List.take 62 (List.drop 58 (ae_il mX10_hands))) 58 = true := by decide +kernel
theorem okc_mX10_hands_120 : ae_okL mX10_hands (List.take 58 (List.drop 62 (List.drop 58 (ae_il mX10_hands)))) 120 = true := by decide +kernel
theorem okc_mX10_hands_178 : ae_okL mX10_hands (List.drop 58 (List.drop 62 (List.drop 58 (ae_il mX10_hands)))) 178 = true := by decide +kernel
theorem okp_mX10_hands : plainFor mX10_hands.1 = true := by decide +kernel
theorem okc_mX10_goes_0 : ae_okL mX10_goes (List.take 65 (ae_il mX10_goes)) 0 = true := by decide +kernel
theorem okc_mX10_goes_65 : ae_okL mX10_goes (List.take 69 (List.drop 65 (ae_il mX10_goes))) 65 = true := by decide +kernel
theorem okc_mX10_goes_134 : ae_okL mX10_goes (List.take 65 (List.drop 69 (List.drop 65 (ae_il mX10_goes)))) 134 = true := by decide +kernel
theorem okc_mX10_goes_199 : ae_okL mX10_goes (List.take 63 (List.drop 65 (List.drop 69 (List.drop 65 (ae_il mX10_goes))))) 199 = true := by decide +kernel
theorem okc_mX10_goes_262 : ae_okL mX10_goes (List.drop 63 (List.drop 65 (List.drop 69 (List.drop 65 (ae_il mX10_goes))))) 262 = true := by decide +kernel
theorem okp_mX10_goes : plainFor mX10_goes.1 = true := by decide +kernel
