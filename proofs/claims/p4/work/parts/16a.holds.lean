/-! ===== the table holds ===== -/
def ae_okL (me : ae_M) : List (Option ae_E) → Nat → Bool
  | [], _ => true
  | none :: l, i => ae_okL me l (i + 1)
  | some ie :: l, i => ae_okm me i ie && ae_okL me l (i + 1)
def ae_okM (me : ae_M) : Bool := plainFor me.1 && ae_okL me (ae_il me) 0
theorem ae_okL_at (me : ae_M) : ∀ (l : List (Option ae_E)) (i j : Nat) (ie : ae_E), ae_okL me l i = true → l[j]? = some (some ie) → ae_okm me (i + j) ie = true
  | [], _, j, _, _, h => by simp at h
  | none :: l, i, 0, ie, _, h => by simp at h
  | none :: l, i, j + 1, ie, hk, h => by
    have h : l[j]? = some (some ie) := by simpa using h
    have := ae_okL_at me l (i + 1) j ie hk h
    rw [show i + (j + 1) = i + 1 + j by omega]
    exact this
  | some x :: l, i, 0, ie, hk, h => by
    have h : x = ie := by simpa using h
    subst h
    exact (ae_and hk).1
  | some x :: l, i, j + 1, ie, hk, h => by
    have h : l[j]? = some (some ie) := by simpa using h
    have := ae_okL_at me l (i + 1) j ie (ae_and hk).2 h
    rw [show i + (j + 1) = i + 1 + j by omega]
    exact this
theorem ae_okL_split (me : ae_M) : ∀ (n : Nat) (l : List (Option ae_E)) (i : Nat), ae_okL me (l.take n) i = true → ae_okL me (l.drop n) (i + n) = true → ae_okL me l i = true
  | 0, l, i, _, h => h
  | n + 1, [], i, _, _ => rfl
  | n + 1, none :: l, i, h1, h2 => ae_okL_split me n l (i + 1) h1 (by rw [show i + 1 + n = i + (n + 1) by omega]; exact h2)
  | n + 1, some x :: l, i, h1, h2 => by
    obtain ⟨g1, g2⟩ := ae_and h1
    have g3 := ae_okL_split me n l (i + 1) g2 (by rw [show i + 1 + n = i + (n + 1) by omega]; exact h2)
    show (ae_okm me i x && ae_okL me l (i + 1)) = true
    rw [g1, g3]
    rfl
theorem ae_okM_of {me : ae_M} (h1 : plainFor me.1 = true) (h2 : ae_okL me (ae_il me) 0 = true) : ae_okM me = true := by
  unfold ae_okM
  rw [h1, h2]
  rfl
theorem ok_mX0_init : ae_okM mX0_init = true := by decide +kernel
theorem ok_mX8_roomOf : ae_okM mX8_roomOf = true := by decide +kernel
theorem ok_mX8_hasOf : ae_okM mX8_hasOf = true := by decide +kernel
theorem ok_mX8_keyPlace : ae_okM mX8_keyPlace = true := by decide +kernel
theorem ok_mX8_withKeyAt : ae_okM mX8_withKeyAt = true := by decide +kernel
theorem ok_mX8_withLoaf : ae_okM mX8_withLoaf = true := by decide +kernel
theorem ok_mX8_hungryIn : ae_okM mX8_hungryIn = true := by decide +kernel
theorem ok_mX8_withoutLoaf : ae_okM mX8_withoutLoaf = true := by decide +kernel
theorem ok_mX8_withFed : ae_okM mX8_withFed = true := by decide +kernel
theorem ok_mX2_hasDoor : ae_okM mX2_hasDoor = true := by decide +kernel
theorem ok_mX2_behind : ae_okM mX2_behind = true := by decide +kernel
theorem ok_mX0_afterHand : ae_okM mX0_afterHand = true := by decide +kernel
theorem ok_mX2_opens : ae_okM mX2_opens = true := by decide +kernel
theorem ok_mX8_turns : ae_okM mX8_turns = true := by decide +kernel
theorem ok_mX8_withRoom : ae_okM mX8_withRoom = true := by decide +kernel
theorem ok_mX8_withTurns : ae_okM mX8_withTurns = true := by decide +kernel
theorem ok_mX0_afterSoap : ae_okM mX0_afterSoap = true := by decide +kernel
theorem ok_mX0_afterGo : ae_okM mX0_afterGo = true := by decide +kernel
theorem okc_mX0_afterAtDoor_0 : ae_okL mX0_afterAtDoor (List.take 72 (ae_il mX0_afterAtDoor)) 0 = true := by decide +kernel
theorem okc_mX0_afterAtDoor_72 : ae_okL mX0_afterAtDoor (List.take 76 (List.drop 72 (ae_il mX0_afterAtDoor))) 72 = true := by decide +kernel
theorem okc_mX0_afterAtDoor_148 : ae_okL mX0_afterAtDoor (List.take 80 (List.drop 76 (List.drop 72 (ae_il mX0_afterAtDoor)))) 148 = true := by decide +kernel
theorem okc_mX0_afterAtDoor_228 : ae_okL mX0_afterAtDoor (List.drop 80 (List.drop 76 (List.drop 72 (ae_il mX0_afterAtDoor)))) 228 = true := by decide +kernel
theorem okp_mX0_afterAtDoor : plainFor mX0_afterAtDoor.1 = true := by decide +kernel
theorem okc_mX0_after_0 : ae_okL mX0_after (List.take 98 (ae_il mX0_after)) 0 = true := by decide +kernel
theorem okc_mX0_after_98 : ae_okL mX0_after (List.take 81 (List.drop 98 (ae_il mX0_after))) 98 = true := by decide +kernel
theorem okc_mX0_after_179 : ae_okL mX0_after (List.drop 81 (List.drop 98 (ae_il mX0_after))) 179 = true := by decide +kernel
theorem okp_mX0_after : plainFor mX0_after.1 = true := by decide +kernel
theorem ok_mX1_init : ae_okM mX1_init = true := by decide +kernel
theorem ok_mJ7_fill_53178 : ae_okM mJ7_fill_53178 = true := by decide +kernel
theorem ok_mX1_startFrom : ae_okM mX1_startFrom = true := by decide +kernel
theorem okc_mX7_sortDoors_0 : ae_okL mX7_sortDoors (List.take 66 (ae_il mX7_sortDoors)) 0 = true := by decide +kernel
theorem okc_mX7_sortDoors_66 : ae_okL mX7_sortDoors (List.drop 66 (ae_il mX7_sortDoors)) 66 = true := by decide +kernel
theorem okp_mX7_sortDoors : plainFor mX7_sortDoors.1 = true := by decide +kernel
theorem okc_mX7_reach_0 : ae_okL mX7_reach (List.take 61 (ae_il mX7_reach)) 0 = true := by decide +kernel
theorem okc_mX7_reach_61 : ae_okL mX7_reach (List.drop 61 (ae_il mX7_reach)) 61 = true := by decide +kernel
theorem okp_mX7_reach : plainFor mX7_reach.1 = true := by decide +kernel
theorem ok_mX8_hungry : ae_okM mX8_hungry = true := by decide +kernel
theorem ok_mX7_fits : ae_okM mX7_fits = true := by decide +kernel
theorem ok_mX7_standingAt : ae_okM mX7_standingAt = true := by decide +kernel
theorem ok_mX7_listCode : ae_okM mX7_listCode = true := by decide +kernel
theorem ok_mX7_listDoors : ae_okM mX7_listDoors = true := by decide +kernel
theorem okc_mX7_listCodes_0 : ae_okL mX7_listCodes (List.take 89 (ae_il mX7_listCodes)) 0 = true := by decide +kernel
theorem okc_mX7_listCodes_89 : ae_okL mX7_listCodes (List.drop 89 (ae_il mX7_listCodes)) 89 = true := by decide +kernel
theorem okp_mX7_listCodes : plainFor mX7_listCodes.1 = true := by decide +kernel
theorem okc_mX7_spread_0 : ae_okL mX7_spread (List.take 69 (ae_il mX7_spread)) 0 = true := by decide +kernel
theorem okc_mX7_spread_69 : ae_okL mX7_spread (List.drop 69 (ae_il mX7_spread)) 69 = true := by decide +kernel
theorem okp_mX7_spread : plainFor mX7_spread.1 = true := by decide +kernel
theorem ok_mX7_aheadOf : ae_okM mX7_aheadOf = true := by decide +kernel
theorem ok_mX5_init : ae_okM mX5_init = true := by decide +kernel
theorem okc_mX7_pathToLast_0 : ae_okL mX7_pathToLast (List.take 64 (ae_il mX7_pathToLast)) 0 = true := by decide +kernel
theorem okc_mX7_pathToLast_64 : ae_okL mX7_pathToLast (List.drop 64 (ae_il mX7_pathToLast)) 64 = true := by decide +kernel
theorem okp_mX7_pathToLast : plainFor mX7_pathToLast.1 = true := by decide +kernel
theorem ok_mX7_wipe : ae_okM mX7_wipe = true := by decide +kernel
theorem okc_mX7_seek_0 : ae_okL mX7_seek (List.take 75 (ae_il mX7_seek)) 0 = true := by decide +kernel
theorem okc_mX7_seek_75 : ae_okL mX7_seek (List.drop 75 (ae_il mX7_seek)) 75 = true := by decide +kernel
theorem okp_mX7_seek : plainFor mX7_seek.1 = true := by decide +kernel
theorem ok_mX1_rowFor : ae_okM mX1_rowFor = true := by decide +kernel
theorem ok_mX1_lengthByTurns : ae_okM mX1_lengthByTurns = true := by decide +kernel
theorem okc_mX1_lengthByWicket_0 : ae_okL mX1_lengthByWicket (List.take 73 (ae_il mX1_lengthByWicket)) 0 = true := by decide +kernel
theorem okc_mX1_lengthByWicket_73 : ae_okL mX1_lengthByWicket (List.drop 73 (ae_il mX1_lengthByWicket)) 73 = true := by decide +kernel
theorem okp_mX1_lengthByWicket : plainFor mX1_lengthByWicket.1 = true := by decide +kernel
theorem ok_mX2_begin : ae_okM mX2_begin = true := by decide +kernel
theorem ok_mX2_init : ae_okM mX2_init = true := by decide +kernel
theorem okc_mX2_copyFrom_0 : ae_okL mX2_copyFrom (List.take 78 (ae_il mX2_copyFrom)) 0 = true := by decide +kernel
theorem okc_mX2_copyFrom_78 : ae_okL mX2_copyFrom (List.drop 78 (ae_il mX2_copyFrom)) 78 = true := by decide +kernel
theorem okp_mX2_copyFrom : plainFor mX2_copyFrom.1 = true := by decide +kernel
theorem ok_mX2_addDoor : ae_okM mX2_addDoor = true := by decide +kernel
