/-! ===== the table holds ===== -/
def ae_okL (me : ae_M) : List (Option ae_E) → Nat → Bool
  | [], _ => true
  | none :: l, i => ae_okL me l (i + 1)
  | some ie :: l, i => ae_okm me i ie && ae_okL me l (i + 1)
def ae_okM (me : ae_M) : Bool := plainFor me.1 && ae_okL me (ae_il me) 0
theorem ae_okL_at (me : ae_M) : ∀ (l : List (Option ae_E)) (i j : Nat) (ie : ae_E), ae_okL me l i = true → l[j]? = some (some ie) → ae_okm me (i + j) ie = true
  | [], _, j, _, _, h => by simp at h
  | none :: l, i, 0, ie, _, h => by simp at h
  | none :: l, i, j + 1, ie, hk, h => by
    have h : l[j]? = some (some ie) := by simpa using h
    have := ae_okL_at me l (i + 1) j ie hk h
    rw [show i + (j + 1) = i + 1 + j by omega]
    exact this
  | some x :: l, i, 0, ie, hk, h => by
    have h : x = ie := by simpa using h
    subst h
    exact (ae_and hk).1
  | some x :: l, i, j + 1, ie, hk, h => by
    have h : l[j]? = some (some ie) := by simpa using h
    have := ae_okL_at me l (i + 1) j ie (ae_and hk).2 h
    rw [show i + (j + 1) = i + 1 + j by omega]
    exact this
theorem ae_okL_split (me : ae_M) : ∀ (n : Nat) (l : List (Option ae_E)) (i : Nat), ae_okL me (l.take n) i = true → ae_okL me (l.drop n) (i + n) = true → ae_okL me l i = true
  | 0, l, i, _, h => h
  | n + 1, [], i, _, _ => rfl
  | n + 1, none :: l, i, h1, h2 => ae_okL_split me n l (i + 1) h1 (by rw [show i + 1 + n = i + (n + 1) by omega]; exact h2)
  | n + 1, some x :: l, i, h1, h2 => by
    obtain ⟨g1, g2⟩ := ae_and h1
    have g3 := ae_okL_split me n l (i + 1) g2 (by rw [show i + 1 + n = i + (n + 1) by omega]; exact h2)
    show (ae_okm me i x && ae_okL me l (i + 1)) = true
    rw [g1, g3]
    rfl
theorem ae_okM_of {me : ae_M} (h1 : plainFor me.1 = true) (h2 : ae_okL me (ae_il me) 0 = true) : ae_okM me = true := by
  unfold ae_okM
  rw [h1, h2]
  rfl
theorem ok_mX0_init : ae_okM mX0_init = true := by decide +kernel
theorem ok_mX8_roomOf : ae_okM mX8_roomOf = true := by decide +kernel
theorem ok_mX8_hasOf : ae_okM mX8_hasOf = true := by decide +kernel
theorem ok_mX8_keyPlace : ae_okM mX8_keyPlace = true := by decide +kernel
theorem ok_mX8_withKeyAt : ae_okM mX8_withKeyAt = true := by decide +kernel
theorem ok_mX8_withLoaf : ae_okM mX8_withLoaf = true := by decide +kernel
theorem ok_mX8_hungryIn : ae_okM mX8_hungryIn = true := by decide +kernel
theorem ok_mX2_hasDoor : ae_okM mX2_hasDoor = true := by decide +kernel
theorem ok_mX2_behind : ae_okM mX2_behind = true := by decide +kernel
theorem ok_mX8_turns : ae_okM mX8_turns = true := by decide +kernel
theorem ok_mX8_withTurns : ae_okM mX8_withTurns = true := by decide +kernel
theorem ok_mX0_afterAtDoor : ae_okM mX0_afterAtDoor = true := by decide +kernel
theorem okc_mX0_after_0 : ae_okL mX0_after (List.take 111 (ae_il mX0_after)) 0 = true := by decide +kernel
theorem okc_mX0_after_111 : ae_okL mX0_after (List.drop 111 (ae_il mX0_after)) 111 = true := by decide +kernel
theorem okp_mX0_after : plainFor mX0_after.1 = true := by decide +kernel
theorem ok_mX1_init : ae_okM mX1_init = true := by decide +kernel
theorem ok_mJ7_fill_53178 : ae_okM mJ7_fill_53178 = true := by decide +kernel
theorem ok_mX1_startFrom : ae_okM mX1_startFrom = true := by decide +kernel
theorem ok_mX7_sortDoors : ae_okM mX7_sortDoors = true := by decide +kernel
theorem okc_mX7_reach_0 : ae_okL mX7_reach (List.take 65 (ae_il mX7_reach)) 0 = true := by decide +kernel
theorem okc_mX7_reach_65 : ae_okL mX7_reach (List.drop 65 (ae_il mX7_reach)) 65 = true := by decide +kernel
theorem okp_mX7_reach : plainFor mX7_reach.1 = true := by decide +kernel
theorem ok_mX8_hungry : ae_okM mX8_hungry = true := by decide +kernel
theorem ok_mX7_fits : ae_okM mX7_fits = true := by decide +kernel
theorem ok_mX7_standingAt : ae_okM mX7_standingAt = true := by decide +kernel
theorem ok_mX5_init : ae_okM mX5_init = true := by decide +kernel
theorem ok_mX7_pathToLast : ae_okM mX7_pathToLast = true := by decide +kernel
theorem ok_mX7_wipe : ae_okM mX7_wipe = true := by decide +kernel
theorem ok_mX7_seek : ae_okM mX7_seek = true := by decide +kernel
theorem ok_mX1_rowFor : ae_okM mX1_rowFor = true := by decide +kernel
theorem ok_mX1_lengthByTurns : ae_okM mX1_lengthByTurns = true := by decide +kernel
theorem ok_mX2_begin : ae_okM mX2_begin = true := by decide +kernel
theorem ok_mX2_init : ae_okM mX2_init = true := by decide +kernel
theorem okc_mX2_copyFrom_0 : ae_okL mX2_copyFrom (List.take 78 (ae_il mX2_copyFrom)) 0 = true := by decide +kernel
theorem okc_mX2_copyFrom_78 : ae_okL mX2_copyFrom (List.drop 78 (ae_il mX2_copyFrom)) 78 = true := by decide +kernel
theorem okp_mX2_copyFrom : plainFor mX2_copyFrom.1 = true := by decide +kernel
theorem ok_mX2_hasRoom : ae_okM mX2_hasRoom = true := by decide +kernel
theorem ok_mX3_init : ae_okM mX3_init = true := by decide +kernel
theorem ok_mX3_unhear : ae_okM mX3_unhear = true := by decide +kernel
theorem ok_mJ7_fill_d0a16 : ae_okM mJ7_fill_d0a16 = true := by decide +kernel
theorem ok_mX3_roomAfter : ae_okM mX3_roomAfter = true := by decide +kernel
theorem okc_mX3_countWaysTo_0 : ae_okL mX3_countWaysTo (List.take 66 (ae_il mX3_countWaysTo)) 0 = true := by decide +kernel
theorem okc_mX3_countWaysTo_66 : ae_okL mX3_countWaysTo (List.drop 66 (ae_il mX3_countWaysTo)) 66 = true := by decide +kernel
theorem okp_mX3_countWaysTo : plainFor mX3_countWaysTo.1 = true := by decide +kernel
theorem ok_mX3_ways : ae_okM mX3_ways = true := by decide +kernel
theorem ok_mX3_roomsBehind : ae_okM mX3_roomsBehind = true := by decide +kernel
theorem okc_mX3_countWaysOn_0 : ae_okL mX3_countWaysOn (List.take 69 (ae_il mX3_countWaysOn)) 0 = true := by decide +kernel
theorem okc_mX3_countWaysOn_69 : ae_okL mX3_countWaysOn (List.drop 69 (ae_il mX3_countWaysOn)) 69 = true := by decide +kernel
theorem okp_mX3_countWaysOn : plainFor mX3_countWaysOn.1 = true := by decide +kernel
theorem ok_mX3_mostWaysBehind : ae_okM mX3_mostWaysBehind = true := by decide +kernel
theorem ok_mX3_bestMinute : ae_okM mX3_bestMinute = true := by decide +kernel
theorem ok_mX4_power : ae_okM mX4_power = true := by decide +kernel
theorem okc_mX4_waysInTime_0 : ae_okL mX4_waysInTime (List.take 63 (ae_il mX4_waysInTime)) 0 = true := by decide +kernel
theorem okc_mX4_waysInTime_63 : ae_okL mX4_waysInTime (List.drop 63 (ae_il mX4_waysInTime)) 63 = true := by decide +kernel
theorem okp_mX4_waysInTime : plainFor mX4_waysInTime.1 = true := by decide +kernel
theorem ok_mX4_commonDivisor : ae_okM mX4_commonDivisor = true := by decide +kernel
theorem ok_mX4_tell : ae_okM mX4_tell = true := by decide +kernel
theorem ok_mX5_tell : ae_okM mX5_tell = true := by decide +kernel
theorem ok_mX6_init : ae_okM mX6_init = true := by decide +kernel
theorem ok_mX6_add : ae_okM mX6_add = true := by decide +kernel
theorem ok_mX6_empty : ae_okM mX6_empty = true := by decide +kernel
theorem ok_mX6_nextToken : ae_okM mX6_nextToken = true := by decide +kernel
theorem ok_mX6_wordOf : ae_okM mX6_wordOf = true := by decide +kernel
theorem ok_mJ0_coder_7d493 : ae_okM mJ0_coder_7d493 = true := by decide +kernel
theorem ok_mJ0_length_8abf5 : ae_okM mJ0_length_8abf5 = true := by decide +kernel
theorem ok_mX6_isHere : ae_okM mX6_isHere = true := by decide +kernel
theorem ok_mX6_wordHere : ae_okM mX6_wordHere = true := by decide +kernel
theorem ok_mX6_readLine : ae_okM mX6_readLine = true := by decide +kernel
theorem ok_mX6_readInto : ae_okM mX6_readInto = true := by decide +kernel
theorem ok_mX7_init : ae_okM mX7_init = true := by decide +kernel
theorem ok_mX8_atFirst : ae_okM mX8_atFirst = true := by decide +kernel
theorem ok_mX9_standAt : ae_okM mX9_standAt = true := by decide +kernel
theorem ok_mX9_beginAsTold : ae_okM mX9_beginAsTold = true := by decide +kernel
theorem okc_mX9_init_0 : ae_okL mX9_init (List.take 86 (ae_il mX9_init)) 0 = true := by decide +kernel
theorem okc_mX9_init_86 : ae_okL mX9_init (List.drop 86 (ae_il mX9_init)) 86 = true := by decide +kernel
theorem okp_mX9_init : plainFor mX9_init.1 = true := by decide +kernel
