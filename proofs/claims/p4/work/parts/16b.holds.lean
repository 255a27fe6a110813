theorem ok_mX2_hasRoom : ae_okM mX2_hasRoom = true := by decide +kernel
theorem ok_mX2_isHungry : ae_okM mX2_isHungry = true := by decide +kernel
theorem ok_mX2_keyGoes : ae_okM mX2_keyGoes = true := by decide +kernel
theorem ok_mX3_init : ae_okM mX3_init = true := by decide +kernel
theorem ok_mX3_hear : ae_okM mX3_hear = true := by decide +kernel
theorem ok_mX3_unhear : ae_okM mX3_unhear = true := by decide +kernel
theorem ok_mJ7_fill_d0a16 : ae_okM mJ7_fill_d0a16 = true := by decide +kernel
theorem ok_mX3_roomAfter : ae_okM mX3_roomAfter = true := by decide +kernel
theorem okc_mX3_countWaysTo_0 : ae_okL mX3_countWaysTo (List.take 66 (ae_il mX3_countWaysTo)) 0 = true := by decide +kernel
theorem okc_mX3_countWaysTo_66 : ae_okL mX3_countWaysTo (List.drop 66 (ae_il mX3_countWaysTo)) 66 = true := by decide +kernel
theorem okp_mX3_countWaysTo : plainFor mX3_countWaysTo.1 = true := by decide +kernel
theorem ok_mX3_ways : ae_okM mX3_ways = true := by decide +kernel
theorem ok_mX3_roomsBehind : ae_okM mX3_roomsBehind = true := by decide +kernel
theorem okc_mX3_countWaysOn_0 : ae_okL mX3_countWaysOn (List.take 69 (ae_il mX3_countWaysOn)) 0 = true := by decide +kernel
theorem okc_mX3_countWaysOn_69 : ae_okL mX3_countWaysOn (List.drop 69 (ae_il mX3_countWaysOn)) 69 = true := by decide +kernel
theorem okp_mX3_countWaysOn : plainFor mX3_countWaysOn.1 = true := by decide +kernel
theorem ok_mX3_mostWaysBehind : ae_okM mX3_mostWaysBehind = true := by decide +kernel
theorem ok_mX3_bestMinute : ae_okM mX3_bestMinute = true := by decide +kernel
theorem ok_mX4_power : ae_okM mX4_power = true := by decide +kernel
theorem okc_mX4_waysInTime_0 : ae_okL mX4_waysInTime (List.take 63 (ae_il mX4_waysInTime)) 0 = true := by decide +kernel
theorem okc_mX4_waysInTime_63 : ae_okL mX4_waysInTime (List.drop 63 (ae_il mX4_waysInTime)) 63 = true := by decide +kernel
theorem okp_mX4_waysInTime : plainFor mX4_waysInTime.1 = true := by decide +kernel
theorem ok_mX4_commonDivisor : ae_okM mX4_commonDivisor = true := by decide +kernel
theorem ok_mX4_tell : ae_okM mX4_tell = true := by decide +kernel
theorem ok_mX5_tell : ae_okM mX5_tell = true := by decide +kernel
theorem ok_mX6_init : ae_okM mX6_init = true := by decide +kernel
theorem ok_mX6_add : ae_okM mX6_add = true := by decide +kernel
theorem ok_mX6_empty : ae_okM mX6_empty = true := by decide +kernel
theorem ok_mX6_isLetter : ae_okM mX6_isLetter = true := by decide +kernel
theorem ok_mX6_isDigit : ae_okM mX6_isDigit = true := by decide +kernel
theorem okc_mX6_nextToken_0 : ae_okL mX6_nextToken (List.take 81 (ae_il mX6_nextToken)) 0 = true := by decide +kernel
theorem okc_mX6_nextToken_81 : ae_okL mX6_nextToken (List.take 82 (List.drop 81 (ae_il mX6_nextToken))) 81 = true := by decide +kernel
theorem okc_mX6_nextToken_163 : ae_okL mX6_nextToken (List.drop 82 (List.drop 81 (ae_il mX6_nextToken))) 163 = true := by decide +kernel
theorem okp_mX6_nextToken : plainFor mX6_nextToken.1 = true := by decide +kernel
theorem ok_mX6_wordOf : ae_okM mX6_wordOf = true := by decide +kernel
theorem ok_mJ0_coder_7d493 : ae_okM mJ0_coder_7d493 = true := by decide +kernel
theorem ok_mJ0_length_8abf5 : ae_okM mJ0_length_8abf5 = true := by decide +kernel
theorem ok_mX6_isHere : ae_okM mX6_isHere = true := by decide +kernel
theorem ok_mX6_wordHere : ae_okM mX6_wordHere = true := by decide +kernel
theorem okc_mX6_nextNumber_0 : ae_okL mX6_nextNumber (List.take 73 (ae_il mX6_nextNumber)) 0 = true := by decide +kernel
theorem okc_mX6_nextNumber_73 : ae_okL mX6_nextNumber (List.drop 73 (ae_il mX6_nextNumber)) 73 = true := by decide +kernel
theorem okp_mX6_nextNumber : plainFor mX6_nextNumber.1 = true := by decide +kernel
theorem ok_mX6_readGaol : ae_okM mX6_readGaol = true := by decide +kernel
theorem ok_mJ6_bitCount_0f7a4 : ae_okM mJ6_bitCount_0f7a4 = true := by decide +kernel
theorem ok_mX6_readHungry : ae_okM mX6_readHungry = true := by decide +kernel
theorem ok_mX6_readGuard : ae_okM mX6_readGuard = true := by decide +kernel
theorem okc_mX6_readDoor_0 : ae_okL mX6_readDoor (List.take 65 (ae_il mX6_readDoor)) 0 = true := by decide +kernel
theorem okc_mX6_readDoor_65 : ae_okL mX6_readDoor (List.drop 65 (ae_il mX6_readDoor)) 65 = true := by decide +kernel
theorem okp_mX6_readDoor : plainFor mX6_readDoor.1 = true := by decide +kernel
theorem okc_mX6_readLine_0 : ae_okL mX6_readLine (List.take 130 (ae_il mX6_readLine)) 0 = true := by decide +kernel
theorem okc_mX6_readLine_130 : ae_okL mX6_readLine (List.drop 130 (ae_il mX6_readLine)) 130 = true := by decide +kernel
theorem okp_mX6_readLine : plainFor mX6_readLine.1 = true := by decide +kernel
theorem okc_mX6_readInto_0 : ae_okL mX6_readInto (List.take 74 (ae_il mX6_readInto)) 0 = true := by decide +kernel
theorem okc_mX6_readInto_74 : ae_okL mX6_readInto (List.drop 74 (ae_il mX6_readInto)) 74 = true := by decide +kernel
theorem okp_mX6_readInto : plainFor mX6_readInto.1 = true := by decide +kernel
theorem ok_mX7_init : ae_okM mX7_init = true := by decide +kernel
theorem ok_mX8_atFirst : ae_okM mX8_atFirst = true := by decide +kernel
