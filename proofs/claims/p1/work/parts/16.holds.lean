/-! ===== the table holds ===== -/
def ae_okL (me : ae_M) : List (Option ae_E) → Nat → Bool
  | [], _ => true
  | none :: l, i => ae_okL me l (i + 1)
  | some ie :: l, i => ae_okm me i ie && ae_okL me l (i + 1)
def ae_okM (me : ae_M) : Bool := plainFor me.1 && ae_okL me (ae_il me) 0
theorem ae_okL_at (me : ae_M) : ∀ (l : List (Option ae_E)) (i j : Nat) (ie : ae_E), ae_okL me l i = true → l[j]? = some (some ie) → ae_okm me (i + j) ie = true
  | [], _, j, _, _, h => by simp at h
  | none :: l, i, 0, ie, _, h => by simp at h
  | none :: l, i, j + 1, ie, hk, h => by
    have h : l[j]? = some (some ie) := by simpa using h
    have := ae_okL_at me l (i + 1) j ie hk h
    rw [show i + (j + 1) = i + 1 + j by omega]
    exact this
  | some x :: l, i, 0, ie, hk, h => by
    have h : x = ie := by simpa using h
    subst h
    exact (ae_and hk).1
  | some x :: l, i, j + 1, ie, hk, h => by
    have h : l[j]? = some (some ie) := by simpa using h
    have := ae_okL_at me l (i + 1) j ie (ae_and hk).2 h
    rw [show i + (j + 1) = i + 1 + j by omega]
    exact this
theorem ae_okL_split (me : ae_M) : ∀ (n : Nat) (l : List (Option ae_E)) (i : Nat), ae_okL me (l.take n) i = true → ae_okL me (l.drop n) (i + n) = true → ae_okL me l i = true
  | 0, l, i, _, h => h
  | n + 1, [], i, _, _ => rfl
  | n + 1, none :: l, i, h1, h2 => ae_okL_split me n l (i + 1) h1 (by rw [show i + 1 + n = i + (n + 1) by omega]; exact h2)
  | n + 1, some x :: l, i, h1, h2 => by
    obtain ⟨g1, g2⟩ := ae_and h1
    have g3 := ae_okL_split me n l (i + 1) g2 (by rw [show i + 1 + n = i + (n + 1) by omega]; exact h2)
    show (ae_okm me i x && ae_okL me l (i + 1)) = true
    rw [g1, g3]
    rfl
theorem ok_mX0_init : ae_okM mX0_init = true := by decide +kernel
theorem ok_mX8_roomOf : ae_okM mX8_roomOf = true := by decide +kernel
theorem ok_mX8_hasOf : ae_okM mX8_hasOf = true := by decide +kernel
theorem ok_mX8_keyPlace : ae_okM mX8_keyPlace = true := by decide +kernel
theorem ok_mX8_withKeyAt : ae_okM mX8_withKeyAt = true := by decide +kernel
theorem ok_mX8_withLoaf : ae_okM mX8_withLoaf = true := by decide +kernel
theorem ok_mX8_hungryIn : ae_okM mX8_hungryIn = true := by decide +kernel
theorem ok_mX2_hasDoor : ae_okM mX2_hasDoor = true := by decide +kernel
theorem ok_mX2_behind : ae_okM mX2_behind = true := by decide +kernel
theorem ok_mX8_turns : ae_okM mX8_turns = true := by decide +kernel
theorem ok_mX8_withTurns : ae_okM mX8_withTurns = true := by decide +kernel
theorem ok_mX0_afterAtDoor : ae_okM mX0_afterAtDoor = true := by decide +kernel
theorem okc_mX0_after_0 : ae_okL mX0_after (List.take 111 (ae_il mX0_after)) 0 = true := by decide +kernel
theorem okc_mX0_after_111 : ae_okL mX0_after (List.drop 111 (ae_il mX0_after)) 111 = true := by decide +kernel
theorem okp_mX0_after : plainFor mX0_after.1 = true := by decide +kernel
theorem ok_mX0_after : ae_okM mX0_after = true := by
  unfold ae_okM
  rw [okp_mX0_after]
  exact ae_okL_split _ 111 _ _ okc_mX0_after_0 (okc_mX0_after_111)
theorem ok_mX1_init : ae_okM mX1_init = true := by decide +kernel
theorem ok_mJ7_fill_53178 : ae_okM mJ7_fill_53178 = true := by decide +kernel
theorem ok_mX1_startFrom : ae_okM mX1_startFrom = true := by decide +kernel
theorem ok_mX7_sortDoors : ae_okM mX7_sortDoors = true := by decide +kernel
theorem okc_mX7_reach_0 : ae_okL mX7_reach (List.take 65 (ae_il mX7_reach)) 0 = true := by decide +kernel
theorem okc_mX7_reach_65 : ae_okL mX7_reach (List.drop 65 (ae_il mX7_reach)) 65 = true := by decide +kernel
theorem okp_mX7_reach : plainFor mX7_reach.1 = true := by decide +kernel
theorem ok_mX7_reach : ae_okM mX7_reach = true := by
  unfold ae_okM
  rw [okp_mX7_reach]
  exact ae_okL_split _ 65 _ _ okc_mX7_reach_0 (okc_mX7_reach_65)
theorem ok_mX8_hungry : ae_okM mX8_hungry = true := by decide +kernel
theorem ok_mX7_fits : ae_okM mX7_fits = true := by decide +kernel
theorem ok_mX7_standingAt : ae_okM mX7_standingAt = true := by decide +kernel
theorem ok_mX5_init : ae_okM mX5_init = true := by decide +kernel
theorem ok_mX7_pathToLast : ae_okM mX7_pathToLast = true := by decide +kernel
theorem ok_mX7_wipe : ae_okM mX7_wipe = true := by decide +kernel
theorem ok_mX7_seek : ae_okM mX7_seek = true := by decide +kernel
theorem ok_mX1_rowFor : ae_okM mX1_rowFor = true := by decide +kernel
theorem ok_mX1_lengthByTurns : ae_okM mX1_lengthByTurns = true := by decide +kernel
theorem ok_mX2_begin : ae_okM mX2_begin = true := by decide +kernel
theorem ok_mX2_init : ae_okM mX2_init = true := by decide +kernel
theorem okc_mX2_copyFrom_0 : ae_okL mX2_copyFrom (List.take 78 (ae_il mX2_copyFrom)) 0 = true := by decide +kernel
theorem okc_mX2_copyFrom_78 : ae_okL mX2_copyFrom (List.drop 78 (ae_il mX2_copyFrom)) 78 = true := by decide +kernel
theorem okp_mX2_copyFrom : plainFor mX2_copyFrom.1 = true := by decide +kernel
theorem ok_mX2_copyFrom : ae_okM mX2_copyFrom = true := by
  unfold ae_okM
  rw [okp_mX2_copyFrom]
  exact ae_okL_split _ 78 _ _ okc_mX2_copyFrom_0 (okc_mX2_copyFrom_78)
theorem ok_mX2_hasRoom : ae_okM mX2_hasRoom = true := by decide +kernel
theorem ok_mX3_init : ae_okM mX3_init = true := by decide +kernel
theorem ok_mX3_unhear : ae_okM mX3_unhear = true := by decide +kernel
theorem ok_mJ7_fill_d0a16 : ae_okM mJ7_fill_d0a16 = true := by decide +kernel
theorem ok_mX3_roomAfter : ae_okM mX3_roomAfter = true := by decide +kernel
theorem okc_mX3_countWaysTo_0 : ae_okL mX3_countWaysTo (List.take 66 (ae_il mX3_countWaysTo)) 0 = true := by decide +kernel
theorem okc_mX3_countWaysTo_66 : ae_okL mX3_countWaysTo (List.drop 66 (ae_il mX3_countWaysTo)) 66 = true := by decide +kernel
theorem okp_mX3_countWaysTo : plainFor mX3_countWaysTo.1 = true := by decide +kernel
theorem ok_mX3_countWaysTo : ae_okM mX3_countWaysTo = true := by
  unfold ae_okM
  rw [okp_mX3_countWaysTo]
  exact ae_okL_split _ 66 _ _ okc_mX3_countWaysTo_0 (okc_mX3_countWaysTo_66)
theorem ok_mX3_ways : ae_okM mX3_ways = true := by decide +kernel
theorem ok_mX3_roomsBehind : ae_okM mX3_roomsBehind = true := by decide +kernel
theorem okc_mX3_countWaysOn_0 : ae_okL mX3_countWaysOn (List.take 69 (ae_il mX3_countWaysOn)) 0 = true := by decide +kernel
theorem okc_mX3_countWaysOn_69 : ae_okL mX3_countWaysOn (List.drop 69 (ae_il mX3_countWaysOn)) 69 = true := by decide +kernel
theorem okp_mX3_countWaysOn : plainFor mX3_countWaysOn.1 = true := by decide +kernel
theorem ok_mX3_countWaysOn : ae_okM mX3_countWaysOn = true := by
  unfold ae_okM
  rw [okp_mX3_countWaysOn]
  exact ae_okL_split _ 69 _ _ okc_mX3_countWaysOn_0 (okc_mX3_countWaysOn_69)
theorem ok_mX3_mostWaysBehind : ae_okM mX3_mostWaysBehind = true := by decide +kernel
theorem ok_mX3_bestMinute : ae_okM mX3_bestMinute = true := by decide +kernel
theorem ok_mX4_power : ae_okM mX4_power = true := by decide +kernel
theorem okc_mX4_waysInTime_0 : ae_okL mX4_waysInTime (List.take 63 (ae_il mX4_waysInTime)) 0 = true := by decide +kernel
theorem okc_mX4_waysInTime_63 : ae_okL mX4_waysInTime (List.drop 63 (ae_il mX4_waysInTime)) 63 = true := by decide +kernel
theorem okp_mX4_waysInTime : plainFor mX4_waysInTime.1 = true := by decide +kernel
theorem ok_mX4_waysInTime : ae_okM mX4_waysInTime = true := by
  unfold ae_okM
  rw [okp_mX4_waysInTime]
  exact ae_okL_split _ 63 _ _ okc_mX4_waysInTime_0 (okc_mX4_waysInTime_63)
theorem ok_mX4_commonDivisor : ae_okM mX4_commonDivisor = true := by decide +kernel
theorem ok_mX4_tell : ae_okM mX4_tell = true := by decide +kernel
theorem ok_mX5_tell : ae_okM mX5_tell = true := by decide +kernel
theorem ok_mX6_init : ae_okM mX6_init = true := by decide +kernel
theorem ok_mX6_add : ae_okM mX6_add = true := by decide +kernel
theorem ok_mX6_empty : ae_okM mX6_empty = true := by decide +kernel
theorem ok_mX6_nextToken : ae_okM mX6_nextToken = true := by decide +kernel
theorem ok_mX6_wordOf : ae_okM mX6_wordOf = true := by decide +kernel
theorem ok_mJ0_coder_7d493 : ae_okM mJ0_coder_7d493 = true := by decide +kernel
theorem ok_mJ0_length_8abf5 : ae_okM mJ0_length_8abf5 = true := by decide +kernel
theorem ok_mX6_isHere : ae_okM mX6_isHere = true := by decide +kernel
theorem ok_mX6_wordHere : ae_okM mX6_wordHere = true := by decide +kernel
theorem ok_mX6_readLine : ae_okM mX6_readLine = true := by decide +kernel
theorem ok_mX6_readInto : ae_okM mX6_readInto = true := by decide +kernel
theorem ok_mX7_init : ae_okM mX7_init = true := by decide +kernel
theorem ok_mX8_atFirst : ae_okM mX8_atFirst = true := by decide +kernel
theorem ok_mX9_standAt : ae_okM mX9_standAt = true := by decide +kernel
theorem ok_mX9_beginAsTold : ae_okM mX9_beginAsTold = true := by decide +kernel
theorem okc_mX9_init_0 : ae_okL mX9_init (List.take 86 (ae_il mX9_init)) 0 = true := by decide +kernel
theorem okc_mX9_init_86 : ae_okL mX9_init (List.drop 86 (ae_il mX9_init)) 86 = true := by decide +kernel
theorem okp_mX9_init : plainFor mX9_init.1 = true := by decide +kernel
theorem ok_mX9_init : ae_okM mX9_init = true := by
  unfold ae_okM
  rw [okp_mX9_init]
  exact ae_okL_split _ 86 _ _ okc_mX9_init_0 (okc_mX9_init_86)
theorem ok_mX9_write : ae_okM mX9_write = true := by decide +kernel
theorem ok_mX9_erase : ae_okM mX9_erase = true := by decide +kernel
theorem ok_mX9_fault : ae_okM mX9_fault = true := by decide +kernel
theorem ok_mX9_gaol : ae_okM mX9_gaol = true := by decide +kernel
theorem ok_mX9_guardsIn : ae_okM mX9_guardsIn = true := by decide +kernel
theorem ok_mX9_room : ae_okM mX9_room = true := by decide +kernel
theorem ok_mX9_door : ae_okM mX9_door = true := by decide +kernel
theorem ok_mX9_as : ae_okM mX9_as = true := by decide +kernel
theorem ok_mX9_isCode : ae_okM mX9_isCode = true := by decide +kernel
theorem ok_mX9_act : ae_okM mX9_act = true := by decide +kernel
theorem ok_mX9_codesOf : ae_okM mX9_codesOf = true := by decide +kernel
theorem ok_mX9_guard : ae_okM mX9_guard = true := by decide +kernel
theorem ok_mX9_fewest : ae_okM mX9_fewest = true := by decide +kernel
theorem ok_mX9_by : ae_okM mX9_by = true := by decide +kernel
theorem ok_mX9_worth : ae_okM mX9_worth = true := by decide +kernel
theorem ok_mX9_out : ae_okM mX9_out = true := by decide +kernel
theorem ok_mX9_stickingIn : ae_okM mX9_stickingIn = true := by decide +kernel
theorem ok_mX9_odds : ae_okM mX9_odds = true := by decide +kernel
theorem ok_mX9_row : ae_okM mX9_row = true := by decide +kernel
theorem ok_mX9_burn : ae_okM mX9_burn = true := by decide +kernel
theorem ok_mX9_judge : ae_okM mX9_judge = true := by decide +kernel
theorem ok_mX9_heard : ae_okM mX9_heard = true := by decide +kernel
theorem ok_mX9_forget : ae_okM mX9_forget = true := by decide +kernel
theorem ok_mX9_isNight : ae_okM mX9_isNight = true := by decide +kernel
theorem ok_mX9_night : ae_okM mX9_night = true := by decide +kernel
theorem ok_mX9_ask : ae_okM mX9_ask = true := by decide +kernel
theorem ok_mX9_keep : ae_okM mX9_keep = true := by decide +kernel
theorem ok_mX9_back : ae_okM mX9_back = true := by decide +kernel
theorem ok_mX9_count : ae_okM mX9_count = true := by decide +kernel
theorem okc_mX10_begin_0 : ae_okL mX10_begin (List.take 63 (ae_il mX10_begin)) 0 = true := by decide +kernel
theorem okc_mX10_begin_63 : ae_okL mX10_begin (List.drop 63 (ae_il mX10_begin)) 63 = true := by decide +kernel
theorem okp_mX10_begin : plainFor mX10_begin.1 = true := by decide +kernel
theorem ok_mX10_begin : ae_okM mX10_begin = true := by
  unfold ae_okM
  rw [okp_mX10_begin]
  exact ae_okL_split _ 63 _ _ okc_mX10_begin_0 (okc_mX10_begin_63)
theorem okc_mX10_init_0 : ae_okL mX10_init (List.take 77 (ae_il mX10_init)) 0 = true := by decide +kernel
theorem okc_mX10_init_77 : ae_okL mX10_init (List.drop 77 (ae_il mX10_init)) 77 = true := by decide +kernel
theorem okp_mX10_init : plainFor mX10_init.1 = true := by decide +kernel
theorem ok_mX10_init : ae_okM mX10_init = true := by
  unfold ae_okM
  rw [okp_mX10_init]
  exact ae_okL_split _ 77 _ _ okc_mX10_init_0 (okc_mX10_init_77)
theorem ok_mX10_in : ae_okM mX10_in = true := by decide +kernel
theorem ok_mX10_has : ae_okM mX10_has = true := by decide +kernel
theorem ok_mX10_write : ae_okM mX10_write = true := by decide +kernel
theorem ok_mX10_erase : ae_okM mX10_erase = true := by decide +kernel
theorem ok_mX10_token : ae_okM mX10_token = true := by decide +kernel
theorem ok_mX10_isWord : ae_okM mX10_isWord = true := by decide +kernel
theorem ok_mX10_doorWord : ae_okM mX10_doorWord = true := by decide +kernel
theorem ok_mX10_wordOf : ae_okM mX10_wordOf = true := by decide +kernel
theorem ok_mX10_readsLine : ae_okM mX10_readsLine = true := by decide +kernel
theorem ok_mX10_fault : ae_okM mX10_fault = true := by decide +kernel
theorem ok_mX10_gaol : ae_okM mX10_gaol = true := by decide +kernel
theorem ok_mX10_isRoom : ae_okM mX10_isRoom = true := by decide +kernel
theorem ok_mX10_isDoor : ae_okM mX10_isDoor = true := by decide +kernel
theorem ok_mX10_isGuard : ae_okM mX10_isGuard = true := by decide +kernel
theorem okc_mX10_room_0 : ae_okL mX10_room (List.take 92 (ae_il mX10_room)) 0 = true := by decide +kernel
theorem okc_mX10_room_92 : ae_okL mX10_room (List.drop 92 (ae_il mX10_room)) 92 = true := by decide +kernel
theorem okp_mX10_room : plainFor mX10_room.1 = true := by decide +kernel
theorem ok_mX10_room : ae_okM mX10_room = true := by
  unfold ae_okM
  rw [okp_mX10_room]
  exact ae_okL_split _ 92 _ _ okc_mX10_room_0 (okc_mX10_room_92)
theorem ok_mX10_door : ae_okM mX10_door = true := by decide +kernel
theorem ok_mX10_as : ae_okM mX10_as = true := by decide +kernel
theorem ok_mX10_copy : ae_okM mX10_copy = true := by decide +kernel
theorem okc_mX10_stays_0 : ae_okL mX10_stays (List.take 73 (ae_il mX10_stays)) 0 = true := by decide +kernel
theorem okc_mX10_stays_73 : ae_okL mX10_stays (List.take 100 (List.drop 73 (ae_il mX10_stays))) 73 = true := by decide +kernel
theorem okc_mX10_stays_173 : ae_okL mX10_stays (List.drop 100 (List.drop 73 (ae_il mX10_stays))) 173 = true := by decide +kernel
theorem okp_mX10_stays : plainFor mX10_stays.1 = true := by decide +kernel
theorem ok_mX10_stays : ae_okM mX10_stays = true := by
  unfold ae_okM
  rw [okp_mX10_stays]
  exact ae_okL_split _ 73 _ _ okc_mX10_stays_0 (ae_okL_split _ 100 _ _ okc_mX10_stays_73 (okc_mX10_stays_173))
theorem ok_mX10_does : ae_okM mX10_does = true := by decide +kernel
theorem ok_mX10_isCode : ae_okM mX10_isCode = true := by decide +kernel
theorem ok_mX10_act : ae_okM mX10_act = true := by decide +kernel
theorem okc_mX10_guard_0 : ae_okL mX10_guard (List.take 65 (ae_il mX10_guard)) 0 = true := by decide +kernel
theorem okc_mX10_guard_65 : ae_okL mX10_guard (List.drop 65 (ae_il mX10_guard)) 65 = true := by decide +kernel
theorem okp_mX10_guard : plainFor mX10_guard.1 = true := by decide +kernel
theorem ok_mX10_guard : ae_okM mX10_guard = true := by
  unfold ae_okM
  rw [okp_mX10_guard]
  exact ae_okL_split _ 65 _ _ okc_mX10_guard_0 (okc_mX10_guard_65)
theorem ok_mX10_hungryCode : ae_okM mX10_hungryCode = true := by decide +kernel
theorem ok_mX10_hungryOf : ae_okM mX10_hungryOf = true := by decide +kernel
theorem okc_mX10_numberOf_0 : ae_okL mX10_numberOf (List.take 70 (ae_il mX10_numberOf)) 0 = true := by decide +kernel
theorem okc_mX10_numberOf_70 : ae_okL mX10_numberOf (List.take 56 (List.drop 70 (ae_il mX10_numberOf))) 70 = true := by decide +kernel
theorem okc_mX10_numberOf_126 : ae_okL mX10_numberOf (List.drop 56 (List.drop 70 (ae_il mX10_numberOf))) 126 = true := by decide +kernel
theorem okp_mX10_numberOf : plainFor mX10_numberOf.1 = true := by decide +kernel
theorem ok_mX10_numberOf : ae_okM mX10_numberOf = true := by
  unfold ae_okM
  rw [okp_mX10_numberOf]
  exact ae_okL_split _ 70 _ _ okc_mX10_numberOf_0 (ae_okL_split _ 56 _ _ okc_mX10_numberOf_70 (okc_mX10_numberOf_126))
theorem okc_mX10_layStanding_0 : ae_okL mX10_layStanding (List.take 62 (ae_il mX10_layStanding)) 0 = true := by decide +kernel
theorem okc_mX10_layStanding_62 : ae_okL mX10_layStanding (List.take 100 (List.drop 62 (ae_il mX10_layStanding))) 62 = true := by decide +kernel
theorem okc_mX10_layStanding_162 : ae_okL mX10_layStanding (List.drop 100 (List.drop 62 (ae_il mX10_layStanding))) 162 = true := by decide +kernel
theorem okp_mX10_layStanding : plainFor mX10_layStanding.1 = true := by decide +kernel
theorem ok_mX10_layStanding : ae_okM mX10_layStanding = true := by
  unfold ae_okM
  rw [okp_mX10_layStanding]
  exact ae_okL_split _ 62 _ _ okc_mX10_layStanding_0 (ae_okL_split _ 100 _ _ okc_mX10_layStanding_62 (okc_mX10_layStanding_162))
theorem ok_mX10_isEnd : ae_okM mX10_isEnd = true := by decide +kernel
theorem ok_mX10_search : ae_okM mX10_search = true := by decide +kernel
theorem ok_mX10_layActs : ae_okM mX10_layActs = true := by decide +kernel
theorem ok_mX10_toldActs : ae_okM mX10_toldActs = true := by decide +kernel
theorem ok_mX10_fewest : ae_okM mX10_fewest = true := by decide +kernel
theorem ok_mX10_by : ae_okM mX10_by = true := by decide +kernel
theorem ok_mX10_worth : ae_okM mX10_worth = true := by decide +kernel
theorem ok_mX10_out : ae_okM mX10_out = true := by decide +kernel
theorem ok_mX10_divisor : ae_okM mX10_divisor = true := by decide +kernel
theorem ok_mX10_power : ae_okM mX10_power = true := by decide +kernel
theorem ok_mX10_stuck : ae_okM mX10_stuck = true := by decide +kernel
theorem okc_mX10_odds_0 : ae_okL mX10_odds (List.take 80 (ae_il mX10_odds)) 0 = true := by decide +kernel
theorem okc_mX10_odds_80 : ae_okL mX10_odds (List.take 70 (List.drop 80 (ae_il mX10_odds))) 80 = true := by decide +kernel
theorem okc_mX10_odds_150 : ae_okL mX10_odds (List.drop 70 (List.drop 80 (ae_il mX10_odds))) 150 = true := by decide +kernel
theorem okp_mX10_odds : plainFor mX10_odds.1 = true := by decide +kernel
theorem ok_mX10_odds : ae_okM mX10_odds = true := by
  unfold ae_okM
  rw [okp_mX10_odds]
  exact ae_okL_split _ 80 _ _ okc_mX10_odds_0 (ae_okL_split _ 70 _ _ okc_mX10_odds_80 (okc_mX10_odds_150))
theorem ok_mX10_row : ae_okM mX10_row = true := by decide +kernel
theorem ok_mX10_burn : ae_okM mX10_burn = true := by decide +kernel
theorem ok_mX10_judge : ae_okM mX10_judge = true := by decide +kernel
theorem ok_mX10_heard : ae_okM mX10_heard = true := by decide +kernel
theorem ok_mX10_forget : ae_okM mX10_forget = true := by decide +kernel
theorem ok_mX10_fits : ae_okM mX10_fits = true := by decide +kernel
theorem ok_mX10_leads : ae_okM mX10_leads = true := by decide +kernel
theorem okc_mX10_layNight_0 : ae_okL mX10_layNight (List.take 65 (ae_il mX10_layNight)) 0 = true := by decide +kernel
theorem okc_mX10_layNight_65 : ae_okL mX10_layNight (List.take 72 (List.drop 65 (ae_il mX10_layNight))) 65 = true := by decide +kernel
theorem okc_mX10_layNight_137 : ae_okL mX10_layNight (List.take 65 (List.drop 72 (List.drop 65 (ae_il mX10_layNight)))) 137 = true := by decide +kernel
theorem okc_mX10_layNight_202 : ae_okL mX10_layNight (List.drop 65 (List.drop 72 (List.drop 65 (ae_il mX10_layNight)))) 202 = true := by decide +kernel
theorem okp_mX10_layNight : plainFor mX10_layNight.1 = true := by decide +kernel
theorem ok_mX10_layNight : ae_okM mX10_layNight = true := by
  unfold ae_okM
  rw [okp_mX10_layNight]
  exact ae_okL_split _ 65 _ _ okc_mX10_layNight_0 (ae_okL_split _ 72 _ _ okc_mX10_layNight_65 (ae_okL_split _ 65 _ _ okc_mX10_layNight_137 (okc_mX10_layNight_202)))
theorem ok_mX10_isNight : ae_okM mX10_isNight = true := by decide +kernel
theorem okc_mX10_night_0 : ae_okL mX10_night (List.take 67 (ae_il mX10_night)) 0 = true := by decide +kernel
theorem okc_mX10_night_67 : ae_okL mX10_night (List.drop 67 (ae_il mX10_night)) 67 = true := by decide +kernel
theorem okp_mX10_night : plainFor mX10_night.1 = true := by decide +kernel
theorem ok_mX10_night : ae_okM mX10_night = true := by
  unfold ae_okM
  rw [okp_mX10_night]
  exact ae_okL_split _ 67 _ _ okc_mX10_night_0 (okc_mX10_night_67)
theorem okc_mX10_ask_0 : ae_okL mX10_ask (List.take 68 (ae_il mX10_ask)) 0 = true := by decide +kernel
theorem okc_mX10_ask_68 : ae_okL mX10_ask (List.drop 68 (ae_il mX10_ask)) 68 = true := by decide +kernel
theorem okp_mX10_ask : plainFor mX10_ask.1 = true := by decide +kernel
theorem ok_mX10_ask : ae_okM mX10_ask = true := by
  unfold ae_okM
  rw [okp_mX10_ask]
  exact ae_okL_split _ 68 _ _ okc_mX10_ask_0 (okc_mX10_ask_68)
theorem ok_mX10_keep : ae_okM mX10_keep = true := by decide +kernel
theorem ok_mX10_back : ae_okM mX10_back = true := by decide +kernel
theorem ok_mX10_count : ae_okM mX10_count = true := by decide +kernel
theorem ok_mJ9_max_f86c9 : ae_okM mJ9_max_f86c9 = true := by decide +kernel
theorem okc_mL_law_0 : ae_okL mL_law (List.take 165 (ae_il mL_law)) 0 = true := by decide +kernel
theorem okc_mL_law_165 : ae_okL mL_law (List.take 63 (List.drop 165 (ae_il mL_law))) 165 = true := by decide +kernel
theorem okc_mL_law_228 : ae_okL mL_law (List.take 60 (List.drop 63 (List.drop 165 (ae_il mL_law)))) 228 = true := by decide +kernel
theorem okc_mL_law_288 : ae_okL mL_law (List.take 52 (List.drop 60 (List.drop 63 (List.drop 165 (ae_il mL_law))))) 288 = true := by decide +kernel
theorem okc_mL_law_340 : ae_okL mL_law (List.take 56 (List.drop 52 (List.drop 60 (List.drop 63 (List.drop 165 (ae_il mL_law)))))) 340 = true := by decide +kernel
theorem okc_mL_law_396 : ae_okL mL_law (List.take 62 (List.drop 56 (List.drop 52 (List.drop 60 (List.drop 63 (List.drop 165 (ae_il mL_law))))))) 396 = true := by decide +kernel
theorem okc_mL_law_458 : ae_okL mL_law (List.take 56 (List.drop 62 (List.drop 56 (List.drop 52 (List.drop 60 (List.drop 63 (List.drop 165 (ae_il mL_law)))))))) 458 = true := by decide +kernel
theorem okc_mL_law_514 : ae_okL mL_law (List.take 64 (List.drop 56 (List.drop 62 (List.drop 56 (List.drop 52 (List.drop 60 (List.drop 63 (List.drop 165 (ae_il mL_law))))))))) 514 = true := by decide +kernel
theorem okc_mL_law_578 : ae_okL mL_law (List.take 62 (List.drop 64 (List.drop 56 (List.drop 62 (List.drop 56 (List.drop 52 (List.drop 60 (List.drop 63 (List.drop 165 (ae_il mL_law)))))))))) 578 = true := by decide +kernel
theorem okc_mL_law_640 : ae_okL mL_law (List.take 58 (List.drop 62 (List.drop 64 (List.drop 56 (List.drop 62 (List.drop 56 (List.drop 52 (List.drop 60 (List.drop 63 (List.drop 165 (ae_il mL_law))))))))))) 640 = true := by decide +kernel
theorem okc_mL_law_698 : ae_okL mL_law (List.take 66 (List.drop 58 (List.drop 62 (List.drop 64 (List.drop 56 (List.drop 62 (List.drop 56 (List.drop 52 (List.drop 60 (List.drop 63 (List.drop 165 (ae_il mL_law)))))))))))) 698 = true := by decide +kernel
theorem okc_mL_law_764 : ae_okL mL_law (List.drop 66 (List.drop 58 (List.drop 62 (List.drop 64 (List.drop 56 (List.drop 62 (List.drop 56 (List.drop 52 (List.drop 60 (List.drop 63 (List.drop 165 (ae_il mL_law)))))))))))) 764 = true := by decide +kernel
theorem okp_mL_law : plainFor mL_law.1 = true := by decide +kernel
theorem ok_mL_law : ae_okM mL_law = true := by
  unfold ae_okM
  rw [okp_mL_law]
  exact ae_okL_split _ 165 _ _ okc_mL_law_0 (ae_okL_split _ 63 _ _ okc_mL_law_165 (ae_okL_split _ 60 _ _ okc_mL_law_228 (ae_okL_split _ 52 _ _ okc_mL_law_288 (ae_okL_split _ 56 _ _ okc_mL_law_340 (ae_okL_split _ 62 _ _ okc_mL_law_396 (ae_okL_split _ 56 _ _ okc_mL_law_458 (ae_okL_split _ 64 _ _ okc_mL_law_514 (ae_okL_split _ 62 _ _ okc_mL_law_578 (ae_okL_split _ 58 _ _ okc_mL_law_640 (ae_okL_split _ 66 _ _ okc_mL_law_698 (okc_mL_law_764)))))))))))
set_option maxRecDepth 100000 in
theorem ok_all : ∀ me ∈ ae_MT, ae_okM me = true := List.forall_mem_cons.mpr ⟨ok_mX0_init, List.forall_mem_cons.mpr ⟨ok_mX8_roomOf, List.forall_mem_cons.mpr ⟨ok_mX8_hasOf, List.forall_mem_cons.mpr ⟨ok_mX8_keyPlace, List.forall_mem_cons.mpr ⟨ok_mX8_withKeyAt, List.forall_mem_cons.mpr ⟨ok_mX8_withLoaf, List.forall_mem_cons.mpr ⟨ok_mX8_hungryIn, List.forall_mem_cons.mpr ⟨ok_mX2_hasDoor, List.forall_mem_cons.mpr ⟨ok_mX2_behind, List.forall_mem_cons.mpr ⟨ok_mX8_turns, List.forall_mem_cons.mpr ⟨ok_mX8_withTurns, List.forall_mem_cons.mpr ⟨ok_mX0_afterAtDoor, List.forall_mem_cons.mpr ⟨ok_mX0_after, List.forall_mem_cons.mpr ⟨ok_mX1_init, List.forall_mem_cons.mpr ⟨ok_mJ7_fill_53178, List.forall_mem_cons.mpr ⟨ok_mX1_startFrom, List.forall_mem_cons.mpr ⟨ok_mX7_sortDoors, List.forall_mem_cons.mpr ⟨ok_mX7_reach, List.forall_mem_cons.mpr ⟨ok_mX8_hungry, List.forall_mem_cons.mpr ⟨ok_mX7_fits, List.forall_mem_cons.mpr ⟨ok_mX7_standingAt, List.forall_mem_cons.mpr ⟨ok_mX5_init, List.forall_mem_cons.mpr ⟨ok_mX7_pathToLast, List.forall_mem_cons.mpr ⟨ok_mX7_wipe, List.forall_mem_cons.mpr ⟨ok_mX7_seek, List.forall_mem_cons.mpr ⟨ok_mX1_rowFor, List.forall_mem_cons.mpr ⟨ok_mX1_lengthByTurns, List.forall_mem_cons.mpr ⟨ok_mX2_begin, List.forall_mem_cons.mpr ⟨ok_mX2_init, List.forall_mem_cons.mpr ⟨ok_mX2_copyFrom, List.forall_mem_cons.mpr ⟨ok_mX2_hasRoom, List.forall_mem_cons.mpr ⟨ok_mX3_init, List.forall_mem_cons.mpr ⟨ok_mX3_unhear, List.forall_mem_cons.mpr ⟨ok_mJ7_fill_d0a16, List.forall_mem_cons.mpr ⟨ok_mX3_roomAfter, List.forall_mem_cons.mpr ⟨ok_mX3_countWaysTo, List.forall_mem_cons.mpr ⟨ok_mX3_ways, List.forall_mem_cons.mpr ⟨ok_mX3_roomsBehind, List.forall_mem_cons.mpr ⟨ok_mX3_countWaysOn, List.forall_mem_cons.mpr ⟨ok_mX3_mostWaysBehind, List.forall_mem_cons.mpr ⟨ok_mX3_bestMinute, List.forall_mem_cons.mpr ⟨ok_mX4_power, List.forall_mem_cons.mpr ⟨ok_mX4_waysInTime, List.forall_mem_cons.mpr ⟨ok_mX4_commonDivisor, List.forall_mem_cons.mpr ⟨ok_mX4_tell, List.forall_mem_cons.mpr ⟨ok_mX5_tell, List.forall_mem_cons.mpr ⟨ok_mX6_init, List.forall_mem_cons.mpr ⟨ok_mX6_add, List.forall_mem_cons.mpr ⟨ok_mX6_empty, List.forall_mem_cons.mpr ⟨ok_mX6_nextToken, List.forall_mem_cons.mpr ⟨ok_mX6_wordOf, List.forall_mem_cons.mpr ⟨ok_mJ0_coder_7d493, List.forall_mem_cons.mpr ⟨ok_mJ0_length_8abf5, List.forall_mem_cons.mpr ⟨ok_mX6_isHere, List.forall_mem_cons.mpr ⟨ok_mX6_wordHere, List.forall_mem_cons.mpr ⟨ok_mX6_readLine, List.forall_mem_cons.mpr ⟨ok_mX6_readInto, List.forall_mem_cons.mpr ⟨ok_mX7_init, List.forall_mem_cons.mpr ⟨ok_mX8_atFirst, List.forall_mem_cons.mpr ⟨ok_mX9_standAt, List.forall_mem_cons.mpr ⟨ok_mX9_beginAsTold, List.forall_mem_cons.mpr ⟨ok_mX9_init, List.forall_mem_cons.mpr ⟨ok_mX9_write, List.forall_mem_cons.mpr ⟨ok_mX9_erase, List.forall_mem_cons.mpr ⟨ok_mX9_fault, List.forall_mem_cons.mpr ⟨ok_mX9_gaol, List.forall_mem_cons.mpr ⟨ok_mX9_guardsIn, List.forall_mem_cons.mpr ⟨ok_mX9_room, List.forall_mem_cons.mpr ⟨ok_mX9_door, List.forall_mem_cons.mpr ⟨ok_mX9_as, List.forall_mem_cons.mpr ⟨ok_mX9_isCode, List.forall_mem_cons.mpr ⟨ok_mX9_act, List.forall_mem_cons.mpr ⟨ok_mX9_codesOf, List.forall_mem_cons.mpr ⟨ok_mX9_guard, List.forall_mem_cons.mpr ⟨ok_mX9_fewest, List.forall_mem_cons.mpr ⟨ok_mX9_by, List.forall_mem_cons.mpr ⟨ok_mX9_worth, List.forall_mem_cons.mpr ⟨ok_mX9_out, List.forall_mem_cons.mpr ⟨ok_mX9_stickingIn, List.forall_mem_cons.mpr ⟨ok_mX9_odds, List.forall_mem_cons.mpr ⟨ok_mX9_row, List.forall_mem_cons.mpr ⟨ok_mX9_burn, List.forall_mem_cons.mpr ⟨ok_mX9_judge, List.forall_mem_cons.mpr ⟨ok_mX9_heard, List.forall_mem_cons.mpr ⟨ok_mX9_forget, List.forall_mem_cons.mpr ⟨ok_mX9_isNight, List.forall_mem_cons.mpr ⟨ok_mX9_night, List.forall_mem_cons.mpr ⟨ok_mX9_ask, List.forall_mem_cons.mpr ⟨ok_mX9_keep, List.forall_mem_cons.mpr ⟨ok_mX9_back, List.forall_mem_cons.mpr ⟨ok_mX9_count, List.forall_mem_cons.mpr ⟨ok_mX10_begin, List.forall_mem_cons.mpr ⟨ok_mX10_init, List.forall_mem_cons.mpr ⟨ok_mX10_in, List.forall_mem_cons.mpr ⟨ok_mX10_has, List.forall_mem_cons.mpr ⟨ok_mX10_write, List.forall_mem_cons.mpr ⟨ok_mX10_erase, List.forall_mem_cons.mpr ⟨ok_mX10_token, List.forall_mem_cons.mpr ⟨ok_mX10_isWord, List.forall_mem_cons.mpr ⟨ok_mX10_doorWord, List.forall_mem_cons.mpr ⟨ok_mX10_wordOf, List.forall_mem_cons.mpr ⟨ok_mX10_readsLine, List.forall_mem_cons.mpr ⟨ok_mX10_fault, List.forall_mem_cons.mpr ⟨ok_mX10_gaol, List.forall_mem_cons.mpr ⟨ok_mX10_isRoom, List.forall_mem_cons.mpr ⟨ok_mX10_isDoor, List.forall_mem_cons.mpr ⟨ok_mX10_isGuard, List.forall_mem_cons.mpr ⟨ok_mX10_room, List.forall_mem_cons.mpr ⟨ok_mX10_door, List.forall_mem_cons.mpr ⟨ok_mX10_as, List.forall_mem_cons.mpr ⟨ok_mX10_copy, List.forall_mem_cons.mpr ⟨ok_mX10_stays, List.forall_mem_cons.mpr ⟨ok_mX10_does, List.forall_mem_cons.mpr ⟨ok_mX10_isCode, List.forall_mem_cons.mpr ⟨ok_mX10_act, List.forall_mem_cons.mpr ⟨ok_mX10_guard, List.forall_mem_cons.mpr ⟨ok_mX10_hungryCode, List.forall_mem_cons.mpr ⟨ok_mX10_hungryOf, List.forall_mem_cons.mpr ⟨ok_mX10_numberOf, List.forall_mem_cons.mpr ⟨ok_mX10_layStanding, List.forall_mem_cons.mpr ⟨ok_mX10_isEnd, List.forall_mem_cons.mpr ⟨ok_mX10_search, List.forall_mem_cons.mpr ⟨ok_mX10_layActs, List.forall_mem_cons.mpr ⟨ok_mX10_toldActs, List.forall_mem_cons.mpr ⟨ok_mX10_fewest, List.forall_mem_cons.mpr ⟨ok_mX10_by, List.forall_mem_cons.mpr ⟨ok_mX10_worth, List.forall_mem_cons.mpr ⟨ok_mX10_out, List.forall_mem_cons.mpr ⟨ok_mX10_divisor, List.forall_mem_cons.mpr ⟨ok_mX10_power, List.forall_mem_cons.mpr ⟨ok_mX10_stuck, List.forall_mem_cons.mpr ⟨ok_mX10_odds, List.forall_mem_cons.mpr ⟨ok_mX10_row, List.forall_mem_cons.mpr ⟨ok_mX10_burn, List.forall_mem_cons.mpr ⟨ok_mX10_judge, List.forall_mem_cons.mpr ⟨ok_mX10_heard, List.forall_mem_cons.mpr ⟨ok_mX10_forget, List.forall_mem_cons.mpr ⟨ok_mX10_fits, List.forall_mem_cons.mpr ⟨ok_mX10_leads, List.forall_mem_cons.mpr ⟨ok_mX10_layNight, List.forall_mem_cons.mpr ⟨ok_mX10_isNight, List.forall_mem_cons.mpr ⟨ok_mX10_night, List.forall_mem_cons.mpr ⟨ok_mX10_ask, List.forall_mem_cons.mpr ⟨ok_mX10_keep, List.forall_mem_cons.mpr ⟨ok_mX10_back, List.forall_mem_cons.mpr ⟨ok_mX10_count, List.forall_mem_cons.mpr ⟨ok_mJ9_max_f86c9, List.forall_mem_cons.mpr ⟨ok_mL_law, fun _ h => absurd h List.not_mem_nil⟩⟩⟩⟩⟩⟩⟩⟩⟩⟩⟩⟩⟩⟩⟩⟩⟩⟩⟩⟩⟩⟩⟩⟩⟩⟩⟩⟩⟩⟩⟩⟩⟩⟩⟩⟩⟩⟩⟩⟩⟩⟩⟩⟩⟩⟩⟩⟩⟩⟩⟩⟩⟩⟩⟩⟩⟩⟩⟩⟩⟩⟩⟩⟩⟩⟩⟩⟩⟩⟩⟩⟩⟩⟩⟩⟩⟩⟩⟩⟩⟩⟩⟩⟩⟩⟩⟩⟩⟩⟩⟩⟩⟩⟩⟩⟩⟩⟩⟩⟩⟩⟩⟩⟩⟩⟩⟩⟩⟩⟩⟩⟩⟩⟩⟩⟩⟩⟩⟩⟩⟩⟩⟩⟩⟩⟩⟩⟩⟩⟩⟩⟩⟩⟩⟩⟩⟩⟩⟩⟩⟩⟩⟩⟩⟩⟩⟩⟩
