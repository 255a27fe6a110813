/-! ===== contracts: the class, lines and texts ===== -/
theorem c_readLine {V : cg_V} {d q : Nat} (hd : 4 ≤ d) (hq : 89 ≤ q) {m : kM} (hm : kI m) {w : Int} (h_w : (-1) ≤ w ∧ w ≤ 11) (h_kG : kG m) {p : Int} (he : p ≤ m.1 3) (hw : w = LW (m.2.1 2) (m.1 3) p) (hs : m.1 5 = SK (m.2.1 2) (m.1 3) p) (hp : m.1 6 = EP (m.2.1 2) (m.1 3) p) : cg_S V d q mX6_readLine [vR 1, vR 9, vI w] (kl m) (R_I (fun z m' => (kI m') ∧ (fr [5, 6, 13, 14, 15, 16, 17, 18] [10, 11, 12, 13, 14] m m') ∧ ((z = 1 ∧ LK (m.2.1 2) (m.1 3) p (m.1 13) (m.1 14) (m.1 16) = 1 ∧ m'.1 6 = LE (m.2.1 2) (m.1 3) p ∧ m'.1 13 = LR (m.2.1 2) (m.1 3) p (m.1 13) ∧ m'.1 14 = LD (m.2.1 2) (m.1 3) p (m.1 14) ∧ m'.1 16 = LH (m.2.1 2) (m.1 3) p (m.1 13) (m.1 16) ∧ kG m' ∧ (m'.2.1 10, m'.2.1 11, m'.2.1 12, m'.2.1 13, m'.1 18) = LY (m.2.1 2) (m.1 3) p (m.1 13) (m.1 14) (m.2.1 10, m.2.1 11, m.2.1 12, m.2.1 13, m.1 18)) ∨ (z = 0 ∧ LK (m.2.1 2) (m.1 3) p (m.1 13) (m.1 14) (m.1 16) = 0 ∧ m'.1 5 = LQ (m.2.1 2) (m.1 3) p (m.1 13) (m.1 14))))) := by
  have hf0 : fr [5, 6, 13, 14, 15, 16, 17, 18] [10, 11, 12, 13, 14] m m := fr_rf m
  refine cg_of (List.mem_of_getElem? (show ae_MT[80]? = some mX6_readLine from rfl)) (Nat.le_of_ble_eq_true rfl) ?_
  show cg_G V mX6_readLine d q _ 0 [(0, vR 1), (1, vR 9), (2, vI w)] [] (kl m) 0 0
  have h1 : 0 ≤ m.1 3 ∧ m.1 3 ≤ 200 := hm.1 3
  have h2 : 2 ≤ m.1 13 ∧ m.1 13 ≤ 6 := hm.1 13
  have h3 : 0 ≤ m.1 14 ∧ m.1 14 ≤ 10 := hm.1 14
  have h4 : 0 ≤ m.1 16 ∧ m.1 16 ≤ 63 := hm.1 16
  have h5 : (-1) ≤ m.1 18 ∧ m.1 18 ≤ 5 := hm.1 18
  have hEp := EP_rng (t := m.2.1 2) he
  have he6 : m.1 6 ≤ m.1 3 := by omega
  refine g_iload_n (n := 2) rfl rfl ?_
  have kk6 : w = (-1) ∨ w = 0 ∨ w = 1 ∨ w = 2 ∨ w = 3 ∨ w = 4 ∨ w = 5 ∨ w = 6 ∨ w = 7 ∨ w = 8 ∨ w = 9 ∨ w = 10 ∨ w = 11 := by omega
  have J7 : (0 ≤ w ∧ w ≤ 5) → cg_G V mX6_readLine d q (R_I (fun z m' => (kI m') ∧ (fr [5, 6, 13, 14, 15, 16, 17, 18] [10, 11, 12, 13, 14] m m') ∧ ((z = 1 ∧ LK (m.2.1 2) (m.1 3) p (m.1 13) (m.1 14) (m.1 16) = 1 ∧ m'.1 6 = LE (m.2.1 2) (m.1 3) p ∧ m'.1 13 = LR (m.2.1 2) (m.1 3) p (m.1 13) ∧ m'.1 14 = LD (m.2.1 2) (m.1 3) p (m.1 14) ∧ m'.1 16 = LH (m.2.1 2) (m.1 3) p (m.1 13) (m.1 16) ∧ kG m' ∧ (m'.2.1 10, m'.2.1 11, m'.2.1 12, m'.2.1 13, m'.1 18) = LY (m.2.1 2) (m.1 3) p (m.1 13) (m.1 14) (m.2.1 10, m.2.1 11, m.2.1 12, m.2.1 13, m.1 18)) ∨ (z = 0 ∧ LK (m.2.1 2) (m.1 3) p (m.1 13) (m.1 14) (m.1 16) = 0 ∧ m'.1 5 = LQ (m.2.1 2) (m.1 3) p (m.1 13) (m.1 14))))) 170 [(0, vR 1), (1, vR 9), (2, vI w)] [] (kl m) 0 0 := by
    intro kk8
    refine g_aload_n (n := 0) rfl rfl ?_
    refine g_aload_n (n := 1) rfl rfl ?_
    refine g_iload_n (n := 2) rfl rfl ?_
    have h9 : 0 ≤ m.1 5 ∧ m.1 5 ≤ 200 := hm.1 5
    have h10 : 0 ≤ m.1 6 ∧ m.1 6 ≤ 200 := hm.1 6
    refine c_vI (i := 1) (ps := [vI w, vR 9]) (r := []) (as := [vR 1, vR 9, vI w]) (cs' := 0) (sl' := 0) rfl rfl rfl rfl rfl rfl (kl_1 _) (c_readDoor (d := d - 1) (q := q - (6 + 19)) (by omega) (by omega) hm (k := w) (show 0 ≤ w ∧ w ≤ 5 by omega) (by omega)) (by omega) (show 6 + 19 ≤ q by omega) (Nat.le_of_ble_eq_true rfl) (Nat.le_of_ble_eq_true rfl) rfl rfl rfl ?_
    rintro z11 m12 ⟨hm14, hc15, p16⟩
    have hf17 : fr [5, 6, 13, 14, 15, 16, 17, 18] [10, 11, 12, 13, 14] m m12 := fr_tr hf0 (fr_le hc15 rfl rfl)
    have h18 : m12.1 3 = m.1 3 := hc15.1 3 rfl
    have h19 : 0 ≤ m12.1 3 ∧ m12.1 3 ≤ 200 := hm14.1 3
    have h20 : m12.1 13 = m.1 13 := hc15.1 13 rfl
    have h21 : 2 ≤ m12.1 13 ∧ m12.1 13 ≤ 6 := hm14.1 13
    have h22 : m12.1 16 = m.1 16 := hc15.1 16 rfl
    have h23 : 0 ≤ m12.1 16 ∧ m12.1 16 ≤ 63 := hm14.1 16
    have h24 : m12.1 18 = m.1 18 := hc15.1 18 rfl
    have h25 : (-1) ≤ m12.1 18 ∧ m12.1 18 ≤ 5 := hm14.1 18
    have t26 : kG m12 := kG_fr hc15 rfl rfl h_kG
    refine g_zret rfl rfl (by omega) ?_
    have h0 := p16
    rw [hp] at h0
    rcases h0 with ⟨rfl, q1, q2, q3, q4, q5, q6, y1, y2, y3, y4⟩ | ⟨rfl, ⟨q1, q2⟩ | ⟨q1, q2, q3⟩ | ⟨q1, q2, q3, q4⟩ | ⟨q1, q2, q3, q4, q5⟩⟩
    · have hK : LK (m.2.1 2) (m.1 3) p (m.1 13) (m.1 14) (m.1 16) = 1 := by unfold LK; rw [← hw, if_neg (show ¬ (w = -1) by omega), if_neg (show ¬ (w = 6) by omega), if_neg (show ¬ (w = 7 ∨ w = 10) by omega), if_neg (show ¬ (w = 8) by omega), if_neg (show ¬ (w = 9) by omega), if_neg (show ¬ (w = 11) by omega), if_neg (show ¬ (10 ≤ m.1 14 ∨ NUM (m.2.1 2) (m.1 3) 0 (m.1 13 - 1) (EP (m.2.1 2) (m.1 3) p) = -1 ∨ NUM (m.2.1 2) (m.1 3) 0 (m.1 13 - 1) (EP (m.2.1 2) (m.1 3) (EP (m.2.1 2) (m.1 3) p)) = -1 ∨ NUM (m.2.1 2) (m.1 3) 0 (m.1 13 - 1) (EP (m.2.1 2) (m.1 3) (EP (m.2.1 2) (m.1 3) p)) = NUM (m.2.1 2) (m.1 3) 0 (m.1 13 - 1) (EP (m.2.1 2) (m.1 3) p) ∨ NUM (m.2.1 2) (m.1 3) 0 1 (EP (m.2.1 2) (m.1 3) (EP (m.2.1 2) (m.1 3) (EP (m.2.1 2) (m.1 3) p))) = -1) by omega)]
      have hLE : LE (m.2.1 2) (m.1 3) p = EP (m.2.1 2) (m.1 3) (EP (m.2.1 2) (m.1 3) (EP (m.2.1 2) (m.1 3) (EP (m.2.1 2) (m.1 3) p))) := by unfold LE; rw [← hw, if_neg (show ¬ (w = 6 ∨ w = 7 ∨ w = 8 ∨ w = 9 ∨ w = 10) by omega), if_neg (show ¬ (w = 11) by omega)]
      have hLR : LR (m.2.1 2) (m.1 3) p (m.1 13) = m.1 13 := by unfold LR; rw [← hw, if_neg (show ¬ (w = 6) by omega)]
      have hLD : LD (m.2.1 2) (m.1 3) p (m.1 14) = m.1 14 + 1 := by unfold LD; rw [← hw, if_neg (show ¬ (w = 6) by omega), if_pos (show w ≤ 5 by omega)]
      have hLH : LH (m.2.1 2) (m.1 3) p (m.1 13) (m.1 16) = m.1 16 := by unfold LH; rw [← hw, if_neg (show ¬ (w = 6) by omega), if_neg (show ¬ (w = 8) by omega)]
      have hLY : LY (m.2.1 2) (m.1 3) p (m.1 13) (m.1 14) (m.2.1 10, m.2.1 11, m.2.1 12, m.2.1 13, m.1 18) = (up (m.2.1 10) (m.1 14) (NUM (m.2.1 2) (m.1 3) 0 (m.1 13 - 1) (EP (m.2.1 2) (m.1 3) p)), up (m.2.1 11) (m.1 14) (NUM (m.2.1 2) (m.1 3) 0 (m.1 13 - 1) (EP (m.2.1 2) (m.1 3) (EP (m.2.1 2) (m.1 3) p))), up (m.2.1 12) (m.1 14) w, up (m.2.1 13) (m.1 14) (NUM (m.2.1 2) (m.1 3) 0 1 (EP (m.2.1 2) (m.1 3) (EP (m.2.1 2) (m.1 3) (EP (m.2.1 2) (m.1 3) p)))), m.1 18) := by unfold LY; rw [← hw, if_neg (show ¬ (w = 6) by omega), if_pos (show w ≤ 5 by omega)]
      exact ⟨_, _, rfl, hm14, hf17, Or.inl ⟨rfl, hK, by rw [hLE]; exact q5, by rw [hLR]; exact hc15.1 13 rfl, by rw [hLD]; exact q6, by rw [hLH]; exact hc15.1 16 rfl, kG_fr hc15 rfl rfl h_kG, by rw [hLY]; exact kY_eq (y1) (y2) (y3) (y4) (hc15.1 18 rfl)⟩⟩
    · have hK : LK (m.2.1 2) (m.1 3) p (m.1 13) (m.1 14) (m.1 16) = 0 := by unfold LK; rw [← hw, if_neg (show ¬ (w = -1) by omega), if_neg (show ¬ (w = 6) by omega), if_neg (show ¬ (w = 7 ∨ w = 10) by omega), if_neg (show ¬ (w = 8) by omega), if_neg (show ¬ (w = 9) by omega), if_neg (show ¬ (w = 11) by omega), if_pos (show 10 ≤ m.1 14 ∨ NUM (m.2.1 2) (m.1 3) 0 (m.1 13 - 1) (EP (m.2.1 2) (m.1 3) p) = -1 ∨ NUM (m.2.1 2) (m.1 3) 0 (m.1 13 - 1) (EP (m.2.1 2) (m.1 3) (EP (m.2.1 2) (m.1 3) p)) = -1 ∨ NUM (m.2.1 2) (m.1 3) 0 (m.1 13 - 1) (EP (m.2.1 2) (m.1 3) (EP (m.2.1 2) (m.1 3) p)) = NUM (m.2.1 2) (m.1 3) 0 (m.1 13 - 1) (EP (m.2.1 2) (m.1 3) p) ∨ NUM (m.2.1 2) (m.1 3) 0 1 (EP (m.2.1 2) (m.1 3) (EP (m.2.1 2) (m.1 3) (EP (m.2.1 2) (m.1 3) p))) = -1 by omega)]
      have hLQ : LQ (m.2.1 2) (m.1 3) p (m.1 13) (m.1 14) = SK (m.2.1 2) (m.1 3) p := by unfold LQ; rw [← hw, if_neg (show ¬ (w = -1) by omega), if_neg (show ¬ (w = 6 ∨ w = 7 ∨ w = 8 ∨ w = 9 ∨ w = 10) by omega), if_neg (show ¬ (w = 11) by omega), if_pos (show 10 ≤ m.1 14 by omega)]
      exact ⟨_, _, rfl, hm14, hf17, Or.inr ⟨rfl, hK, by rw [hLQ]; exact q2.trans hs⟩⟩
    · have hK : LK (m.2.1 2) (m.1 3) p (m.1 13) (m.1 14) (m.1 16) = 0 := by unfold LK; rw [← hw, if_neg (show ¬ (w = -1) by omega), if_neg (show ¬ (w = 6) by omega), if_neg (show ¬ (w = 7 ∨ w = 10) by omega), if_neg (show ¬ (w = 8) by omega), if_neg (show ¬ (w = 9) by omega), if_neg (show ¬ (w = 11) by omega), if_pos (show 10 ≤ m.1 14 ∨ NUM (m.2.1 2) (m.1 3) 0 (m.1 13 - 1) (EP (m.2.1 2) (m.1 3) p) = -1 ∨ NUM (m.2.1 2) (m.1 3) 0 (m.1 13 - 1) (EP (m.2.1 2) (m.1 3) (EP (m.2.1 2) (m.1 3) p)) = -1 ∨ NUM (m.2.1 2) (m.1 3) 0 (m.1 13 - 1) (EP (m.2.1 2) (m.1 3) (EP (m.2.1 2) (m.1 3) p)) = NUM (m.2.1 2) (m.1 3) 0 (m.1 13 - 1) (EP (m.2.1 2) (m.1 3) p) ∨ NUM (m.2.1 2) (m.1 3) 0 1 (EP (m.2.1 2) (m.1 3) (EP (m.2.1 2) (m.1 3) (EP (m.2.1 2) (m.1 3) p))) = -1 by omega)]
      have hLQ : LQ (m.2.1 2) (m.1 3) p (m.1 13) (m.1 14) = SK (m.2.1 2) (m.1 3) (EP (m.2.1 2) (m.1 3) p) := by unfold LQ; rw [← hw, if_neg (show ¬ (w = -1) by omega), if_neg (show ¬ (w = 6 ∨ w = 7 ∨ w = 8 ∨ w = 9 ∨ w = 10) by omega), if_neg (show ¬ (w = 11) by omega), if_neg (show ¬ (10 ≤ m.1 14) by omega), if_pos (show NUM (m.2.1 2) (m.1 3) 0 (m.1 13 - 1) (EP (m.2.1 2) (m.1 3) p) = -1 by omega)]
      exact ⟨_, _, rfl, hm14, hf17, Or.inr ⟨rfl, hK, by rw [hLQ]; exact q3⟩⟩
    · have hK : LK (m.2.1 2) (m.1 3) p (m.1 13) (m.1 14) (m.1 16) = 0 := by unfold LK; rw [← hw, if_neg (show ¬ (w = -1) by omega), if_neg (show ¬ (w = 6) by omega), if_neg (show ¬ (w = 7 ∨ w = 10) by omega), if_neg (show ¬ (w = 8) by omega), if_neg (show ¬ (w = 9) by omega), if_neg (show ¬ (w = 11) by omega), if_pos (show 10 ≤ m.1 14 ∨ NUM (m.2.1 2) (m.1 3) 0 (m.1 13 - 1) (EP (m.2.1 2) (m.1 3) p) = -1 ∨ NUM (m.2.1 2) (m.1 3) 0 (m.1 13 - 1) (EP (m.2.1 2) (m.1 3) (EP (m.2.1 2) (m.1 3) p)) = -1 ∨ NUM (m.2.1 2) (m.1 3) 0 (m.1 13 - 1) (EP (m.2.1 2) (m.1 3) (EP (m.2.1 2) (m.1 3) p)) = NUM (m.2.1 2) (m.1 3) 0 (m.1 13 - 1) (EP (m.2.1 2) (m.1 3) p) ∨ NUM (m.2.1 2) (m.1 3) 0 1 (EP (m.2.1 2) (m.1 3) (EP (m.2.1 2) (m.1 3) (EP (m.2.1 2) (m.1 3) p))) = -1 by omega)]
      have hLQ : LQ (m.2.1 2) (m.1 3) p (m.1 13) (m.1 14) = SK (m.2.1 2) (m.1 3) (EP (m.2.1 2) (m.1 3) (EP (m.2.1 2) (m.1 3) p)) := by unfold LQ; rw [← hw, if_neg (show ¬ (w = -1) by omega), if_neg (show ¬ (w = 6 ∨ w = 7 ∨ w = 8 ∨ w = 9 ∨ w = 10) by omega), if_neg (show ¬ (w = 11) by omega), if_neg (show ¬ (10 ≤ m.1 14) by omega), if_neg (show ¬ (NUM (m.2.1 2) (m.1 3) 0 (m.1 13 - 1) (EP (m.2.1 2) (m.1 3) p) = -1) by omega), if_pos (show NUM (m.2.1 2) (m.1 3) 0 (m.1 13 - 1) (EP (m.2.1 2) (m.1 3) (EP (m.2.1 2) (m.1 3) p)) = -1 ∨ NUM (m.2.1 2) (m.1 3) 0 (m.1 13 - 1) (EP (m.2.1 2) (m.1 3) (EP (m.2.1 2) (m.1 3) p)) = NUM (m.2.1 2) (m.1 3) 0 (m.1 13 - 1) (EP (m.2.1 2) (m.1 3) p) by omega)]
      exact ⟨_, _, rfl, hm14, hf17, Or.inr ⟨rfl, hK, by rw [hLQ]; exact q4⟩⟩
    · have hK : LK (m.2.1 2) (m.1 3) p (m.1 13) (m.1 14) (m.1 16) = 0 := by unfold LK; rw [← hw, if_neg (show ¬ (w = -1) by omega), if_neg (show ¬ (w = 6) by omega), if_neg (show ¬ (w = 7 ∨ w = 10) by omega), if_neg (show ¬ (w = 8) by omega), if_neg (show ¬ (w = 9) by omega), if_neg (show ¬ (w = 11) by omega), if_pos (show 10 ≤ m.1 14 ∨ NUM (m.2.1 2) (m.1 3) 0 (m.1 13 - 1) (EP (m.2.1 2) (m.1 3) p) = -1 ∨ NUM (m.2.1 2) (m.1 3) 0 (m.1 13 - 1) (EP (m.2.1 2) (m.1 3) (EP (m.2.1 2) (m.1 3) p)) = -1 ∨ NUM (m.2.1 2) (m.1 3) 0 (m.1 13 - 1) (EP (m.2.1 2) (m.1 3) (EP (m.2.1 2) (m.1 3) p)) = NUM (m.2.1 2) (m.1 3) 0 (m.1 13 - 1) (EP (m.2.1 2) (m.1 3) p) ∨ NUM (m.2.1 2) (m.1 3) 0 1 (EP (m.2.1 2) (m.1 3) (EP (m.2.1 2) (m.1 3) (EP (m.2.1 2) (m.1 3) p))) = -1 by omega)]
      have hLQ : LQ (m.2.1 2) (m.1 3) p (m.1 13) (m.1 14) = SK (m.2.1 2) (m.1 3) (EP (m.2.1 2) (m.1 3) (EP (m.2.1 2) (m.1 3) (EP (m.2.1 2) (m.1 3) p))) := by unfold LQ; rw [← hw, if_neg (show ¬ (w = -1) by omega), if_neg (show ¬ (w = 6 ∨ w = 7 ∨ w = 8 ∨ w = 9 ∨ w = 10) by omega), if_neg (show ¬ (w = 11) by omega), if_neg (show ¬ (10 ≤ m.1 14) by omega), if_neg (show ¬ (NUM (m.2.1 2) (m.1 3) 0 (m.1 13 - 1) (EP (m.2.1 2) (m.1 3) p) = -1) by omega), if_neg (show ¬ (NUM (m.2.1 2) (m.1 3) 0 (m.1 13 - 1) (EP (m.2.1 2) (m.1 3) (EP (m.2.1 2) (m.1 3) p)) = -1 ∨ NUM (m.2.1 2) (m.1 3) 0 (m.1 13 - 1) (EP (m.2.1 2) (m.1 3) (EP (m.2.1 2) (m.1 3) p)) = NUM (m.2.1 2) (m.1 3) 0 (m.1 13 - 1) (EP (m.2.1 2) (m.1 3) p)) by omega)]
      exact ⟨_, _, rfl, hm14, hf17, Or.inr ⟨rfl, hK, by rw [hLQ]; exact q5⟩⟩
  rcases kk6 with kk6 | kk6 | kk6 | kk6 | kk6 | kk6 | kk6 | kk6 | kk6 | kk6 | kk6 | kk6 | kk6
  · refine g_tsw_in (tg := 68) (o9 := 67) (by omega) (by omega) rfl (by omega) (by omega) (by rw [kk6]; rfl) (by decide) ?_
    refine g_iconst rfl ?_
    refine g_zret rfl rfl (by omega) ?_
    have hK : LK (m.2.1 2) (m.1 3) p (m.1 13) (m.1 14) (m.1 16) = 0 := by unfold LK; rw [← hw, if_pos (show w = -1 by omega)]
    have hLQ : LQ (m.2.1 2) (m.1 3) p (m.1 13) (m.1 14) = SK (m.2.1 2) (m.1 3) p := by unfold LQ; rw [← hw, if_pos (show w = -1 by omega)]
    exact ⟨_, _, rfl, hm, hf0, Or.inr ⟨rfl, hK, by rw [hLQ]; exact hs⟩⟩
  · refine g_tsw_in (tg := 170) (o9 := 169) (by omega) (by omega) rfl (by omega) (by omega) (by rw [kk6]; rfl) (by decide) ?_
    exact J7 (by omega)
  · refine g_tsw_in (tg := 170) (o9 := 169) (by omega) (by omega) rfl (by omega) (by omega) (by rw [kk6]; rfl) (by decide) ?_
    exact J7 (by omega)
  · refine g_tsw_in (tg := 170) (o9 := 169) (by omega) (by omega) rfl (by omega) (by omega) (by rw [kk6]; rfl) (by decide) ?_
    exact J7 (by omega)
  · refine g_tsw_in (tg := 170) (o9 := 169) (by omega) (by omega) rfl (by omega) (by omega) (by rw [kk6]; rfl) (by decide) ?_
    exact J7 (by omega)
  · refine g_tsw_in (tg := 170) (o9 := 169) (by omega) (by omega) rfl (by omega) (by omega) (by rw [kk6]; rfl) (by decide) ?_
    exact J7 (by omega)
  · refine g_tsw_in (tg := 170) (o9 := 169) (by omega) (by omega) rfl (by omega) (by omega) (by rw [kk6]; rfl) (by decide) ?_
    exact J7 (by omega)
  · refine g_tsw_in (tg := 70) (o9 := 69) (by omega) (by omega) rfl (by omega) (by omega) (by rw [kk6]; rfl) (by decide) ?_
    refine g_aload_n (n := 0) rfl rfl ?_
    refine g_aload_n (n := 1) rfl rfl ?_
    have h27 : 0 ≤ m.1 6 ∧ m.1 6 ≤ 200 := hm.1 6
    refine c_vI (i := 1) (ps := [vR 9]) (r := []) (as := [vR 1, vR 9]) (cs' := 0) (sl' := 0) rfl rfl rfl rfl rfl rfl (kl_1 _) (c_readGaol (d := d - 1) (q := q - (3 + 19)) (by omega) (by omega) hm  (by omega)) (by omega) (show 3 + 19 ≤ q by omega) (Nat.le_of_ble_eq_true rfl) (Nat.le_of_ble_eq_true rfl) rfl rfl rfl ?_
    rintro z28 m29 ⟨hm31, hc32, p33, p34, p35⟩
    have hf36 : fr [5, 6, 13, 14, 15, 16, 17, 18] [10, 11, 12, 13, 14] m m29 := fr_tr hf0 (fr_le hc32 rfl rfl)
    have h37 : m29.1 3 = m.1 3 := hc32.1 3 rfl
    have h38 : 0 ≤ m29.1 3 ∧ m29.1 3 ≤ 200 := hm31.1 3
    refine g_zret rfl rfl (by omega) ?_
    have h0 := p33
    rw [hp] at h0
    have e1 : m29.1 5 = SK (m.2.1 2) (m.1 3) (EP (m.2.1 2) (m.1 3) p) := by rw [p34, hp]
    have e2 : m29.1 6 = EP (m.2.1 2) (m.1 3) (EP (m.2.1 2) (m.1 3) p) := by rw [p35, hp]
    rcases h0 with ⟨rfl, q1, q2, q3, q4, q5, q6⟩ | ⟨rfl, q1⟩
    · have hK : LK (m.2.1 2) (m.1 3) p (m.1 13) (m.1 14) (m.1 16) = 1 := by unfold LK; rw [← hw, if_neg (show ¬ (w = -1) by omega), if_pos (show w = 6 by omega), if_neg (show ¬ (NUM (m.2.1 2) (m.1 3) 2 6 (EP (m.2.1 2) (m.1 3) p) = -1) by omega)]
      have hLE : LE (m.2.1 2) (m.1 3) p = EP (m.2.1 2) (m.1 3) (EP (m.2.1 2) (m.1 3) p) := by unfold LE; rw [← hw, if_pos (show w = 6 ∨ w = 7 ∨ w = 8 ∨ w = 9 ∨ w = 10 by omega)]
      have hLR : LR (m.2.1 2) (m.1 3) p (m.1 13) = NUM (m.2.1 2) (m.1 3) 2 6 (EP (m.2.1 2) (m.1 3) p) := by unfold LR; rw [← hw, if_pos (show w = 6 by omega)]
      have hLD : LD (m.2.1 2) (m.1 3) p (m.1 14) = 0 := by unfold LD; rw [← hw, if_pos (show w = 6 by omega)]
      have hLH : LH (m.2.1 2) (m.1 3) p (m.1 13) (m.1 16) = 0 := by unfold LH; rw [← hw, if_pos (show w = 6 by omega)]
      have hLY : LY (m.2.1 2) (m.1 3) p (m.1 13) (m.1 14) (m.2.1 10, m.2.1 11, m.2.1 12, m.2.1 13, m.1 18) = (m.2.1 10, m.2.1 11, m.2.1 12, m.2.1 13, 0) := by unfold LY; rw [← hw, if_pos (show w = 6 by omega)]
      exact ⟨_, _, rfl, hm31, hf36, Or.inl ⟨rfl, hK, by rw [hLE]; exact e2, by rw [hLR]; exact q2, by rw [hLD]; exact q3, by rw [hLH]; exact q4, q5, by rw [hLY]; exact kY_eq (hc32.2.1 10 rfl) (hc32.2.1 11 rfl) (hc32.2.1 12 rfl) (hc32.2.1 13 rfl) (q6)⟩⟩
    · have hK : LK (m.2.1 2) (m.1 3) p (m.1 13) (m.1 14) (m.1 16) = 0 := by unfold LK; rw [← hw, if_neg (show ¬ (w = -1) by omega), if_pos (show w = 6 by omega), if_pos (show NUM (m.2.1 2) (m.1 3) 2 6 (EP (m.2.1 2) (m.1 3) p) = -1 by omega)]
      have hLQ : LQ (m.2.1 2) (m.1 3) p (m.1 13) (m.1 14) = SK (m.2.1 2) (m.1 3) (EP (m.2.1 2) (m.1 3) p) := by unfold LQ; rw [← hw, if_neg (show ¬ (w = -1) by omega), if_pos (show w = 6 ∨ w = 7 ∨ w = 8 ∨ w = 9 ∨ w = 10 by omega)]
      exact ⟨_, _, rfl, hm31, hf36, Or.inr ⟨rfl, hK, by rw [hLQ]; exact e1⟩⟩
  · refine g_tsw_in (tg := 76) (o9 := 75) (by omega) (by omega) rfl (by omega) (by omega) (by rw [kk6]; rfl) (by decide) ?_
    refine g_aload_n (n := 1) rfl rfl ?_
    refine g_aload_n (n := 0) rfl rfl ?_
    refine g_iconst rfl ?_
    refine g_aload_n (n := 1) rfl rfl ?_
    refine g_getf (v := vI (m.1 13)) rfl (kl_9 _) rfl ?_
    refine g_iconst rfl ?_
    refine g_isub rfl ?_
    have h39 : 0 ≤ m.1 6 ∧ m.1 6 ≤ 200 := hm.1 6
    refine c_vI (i := 1) (ps := [vI (m.1 13 - 1), vI 0]) (r := [vR 9]) (as := [vR 1, vI 0, vI (m.1 13 - 1)]) (cs' := 0) (sl' := 0) rfl rfl rfl rfl rfl rfl (kl_1 _) (c_nextNumber (d := d - 1) (q := q - (5 + 19)) (by omega) (by omega) hm (a := 0) (b := (m.1 13 - 1)) (show 0 ≤ 0 ∧ 0 ≤ 6 by omega) (show 0 ≤ (m.1 13 - 1) ∧ (m.1 13 - 1) ≤ 6 by omega) (by omega)) (by omega) (show 5 + 19 ≤ q by omega) (Nat.le_of_ble_eq_true rfl) (Nat.le_of_ble_eq_true rfl) rfl rfl rfl ?_
    rintro z40 m41 ⟨hm43, hc44, p45, p46, p47, p48, p49, p50⟩
    have hf51 : fr [5, 6, 13, 14, 15, 16, 17, 18] [10, 11, 12, 13, 14] m m41 := fr_tr hf0 (fr_le hc44 rfl rfl)
    have h52 : m41.1 3 = m.1 3 := hc44.1 3 rfl
    have h53 : 0 ≤ m41.1 3 ∧ m41.1 3 ≤ 200 := hm43.1 3
    have h54 : m41.1 13 = m.1 13 := hc44.1 13 rfl
    have h55 : 2 ≤ m41.1 13 ∧ m41.1 13 ≤ 6 := hm43.1 13
    have h56 : m41.1 14 = m.1 14 := hc44.1 14 rfl
    have h57 : 0 ≤ m41.1 14 ∧ m41.1 14 ≤ 10 := hm43.1 14
    have h58 : m41.1 16 = m.1 16 := hc44.1 16 rfl
    have h59 : 0 ≤ m41.1 16 ∧ m41.1 16 ≤ 63 := hm43.1 16
    have h60 : m41.1 18 = m.1 18 := hc44.1 18 rfl
    have h61 : (-1) ≤ m41.1 18 ∧ m41.1 18 ≤ 5 := hm43.1 18
    have t62 : kG m41 := kG_fr hc44 rfl rfl h_kG
    refine g_putF (m' := (kF m41 15 z40)) rfl (kl_9 _) rfl rfl rfl rfl (kF_15 _ _) ?_
    have hm63 : kI (kF m41 15 z40) := kI_F hm43 15 (show ((-1) : Int) ≤ z40 by omega) (show z40 ≤ (5 : Int) by omega)
    have hf64 : fr [5, 6, 13, 14, 15, 16, 17, 18] [10, 11, 12, 13, 14] m (kF m41 15 z40) := fr_F hf51 15 _ rfl
    refine g_aload_n (n := 1) rfl rfl ?_
    refine g_getf (v := vI z40) rfl (kl_9 _) rfl ?_
    refine g_iconst rfl ?_
    refine g_icmp_eq (by omega) (by omega) (by decide) (by decide) rfl ?_ ?_
    · intro kk65
      refine g_iconst rfl ?_
      refine g_zret rfl rfl (by omega) ?_
      have e0 : z40 = NUM (m.2.1 2) (m.1 3) 0 (m.1 13 - 1) (EP (m.2.1 2) (m.1 3) p) := by rw [p45, hp]
      have e1 : m41.1 5 = SK (m.2.1 2) (m.1 3) (EP (m.2.1 2) (m.1 3) p) := by rw [p46, hp]
      have e2 : m41.1 6 = EP (m.2.1 2) (m.1 3) (EP (m.2.1 2) (m.1 3) p) := by rw [p47, hp]
      have hK : LK (m.2.1 2) (m.1 3) p (m.1 13) (m.1 14) (m.1 16) = 0 := by unfold LK; rw [← hw, if_neg (show ¬ (w = -1) by omega), if_neg (show ¬ (w = 6) by omega), if_pos (show w = 7 ∨ w = 10 by omega), if_pos (show NUM (m.2.1 2) (m.1 3) 0 (m.1 13 - 1) (EP (m.2.1 2) (m.1 3) p) = -1 by omega)]
      have hLQ : LQ (m.2.1 2) (m.1 3) p (m.1 13) (m.1 14) = SK (m.2.1 2) (m.1 3) (EP (m.2.1 2) (m.1 3) p) := by unfold LQ; rw [← hw, if_neg (show ¬ (w = -1) by omega), if_pos (show w = 6 ∨ w = 7 ∨ w = 8 ∨ w = 9 ∨ w = 10 by omega)]
      exact ⟨_, _, rfl, hm63, hf64, Or.inr ⟨rfl, hK, by rw [hLQ]; exact e1⟩⟩
    · intro kk66
      refine g_iconst rfl ?_
      refine g_goto rfl ?_
      refine g_zret rfl rfl (by omega) ?_
      have e0 : z40 = NUM (m.2.1 2) (m.1 3) 0 (m.1 13 - 1) (EP (m.2.1 2) (m.1 3) p) := by rw [p45, hp]
      have e1 : m41.1 5 = SK (m.2.1 2) (m.1 3) (EP (m.2.1 2) (m.1 3) p) := by rw [p46, hp]
      have e2 : m41.1 6 = EP (m.2.1 2) (m.1 3) (EP (m.2.1 2) (m.1 3) p) := by rw [p47, hp]
      have hg := kG_fr hc44 rfl rfl h_kG
      have hK : LK (m.2.1 2) (m.1 3) p (m.1 13) (m.1 14) (m.1 16) = 1 := by unfold LK; rw [← hw, if_neg (show ¬ (w = -1) by omega), if_neg (show ¬ (w = 6) by omega), if_pos (show w = 7 ∨ w = 10 by omega), if_neg (show ¬ (NUM (m.2.1 2) (m.1 3) 0 (m.1 13 - 1) (EP (m.2.1 2) (m.1 3) p) = -1) by omega)]
      have hLE : LE (m.2.1 2) (m.1 3) p = EP (m.2.1 2) (m.1 3) (EP (m.2.1 2) (m.1 3) p) := by unfold LE; rw [← hw, if_pos (show w = 6 ∨ w = 7 ∨ w = 8 ∨ w = 9 ∨ w = 10 by omega)]
      have hLR : LR (m.2.1 2) (m.1 3) p (m.1 13) = m.1 13 := by unfold LR; rw [← hw, if_neg (show ¬ (w = 6) by omega)]
      have hLD : LD (m.2.1 2) (m.1 3) p (m.1 14) = m.1 14 := by unfold LD; rw [← hw, if_neg (show ¬ (w = 6) by omega), if_neg (show ¬ (w ≤ 5) by omega)]
      have hLH : LH (m.2.1 2) (m.1 3) p (m.1 13) (m.1 16) = m.1 16 := by unfold LH; rw [← hw, if_neg (show ¬ (w = 6) by omega), if_neg (show ¬ (w = 8) by omega)]
      have hLY : LY (m.2.1 2) (m.1 3) p (m.1 13) (m.1 14) (m.2.1 10, m.2.1 11, m.2.1 12, m.2.1 13, m.1 18) = (m.2.1 10, m.2.1 11, m.2.1 12, m.2.1 13, m.1 18) := by unfold LY; rw [← hw, if_neg (show ¬ (w = 6) by omega), if_neg (show ¬ (w ≤ 5) by omega), if_neg (show ¬ (w = 10) by omega)]
      exact ⟨_, _, rfl, hm63, hf64, Or.inl ⟨rfl, hK, by rw [hLE]; exact e2, by rw [hLR]; exact hc44.1 13 rfl, by rw [hLD]; exact hc44.1 14 rfl, by rw [hLH]; exact hc44.1 16 rfl, ⟨(show 0 ≤ z40 by omega), hg.2⟩, by rw [hLY]; exact kY_eq (hc44.2.1 10 rfl) (hc44.2.1 11 rfl) (hc44.2.1 12 rfl) (hc44.2.1 13 rfl) (hc44.1 18 rfl)⟩⟩
  · refine g_tsw_in (tg := 105) (o9 := 104) (by omega) (by omega) rfl (by omega) (by omega) (by rw [kk6]; rfl) (by decide) ?_
    refine g_aload_n (n := 0) rfl rfl ?_
    refine g_aload_n (n := 1) rfl rfl ?_
    have h67 : 0 ≤ m.1 6 ∧ m.1 6 ≤ 200 := hm.1 6
    refine c_vI (i := 1) (ps := [vR 9]) (r := []) (as := [vR 1, vR 9]) (cs' := 0) (sl' := 0) rfl rfl rfl rfl rfl rfl (kl_1 _) (c_readHungry (d := d - 1) (q := q - (3 + 19)) (by omega) (by omega) hm  (by omega)) (by omega) (show 3 + 19 ≤ q by omega) (Nat.le_of_ble_eq_true rfl) (Nat.le_of_ble_eq_true rfl) rfl rfl rfl ?_
    rintro z68 m69 ⟨hm71, hc72, p73, p74, p75⟩
    have hf76 : fr [5, 6, 13, 14, 15, 16, 17, 18] [10, 11, 12, 13, 14] m m69 := fr_tr hf0 (fr_le hc72 rfl rfl)
    have h77 : m69.1 3 = m.1 3 := hc72.1 3 rfl
    have h78 : 0 ≤ m69.1 3 ∧ m69.1 3 ≤ 200 := hm71.1 3
    have h79 : m69.1 13 = m.1 13 := hc72.1 13 rfl
    have h80 : 2 ≤ m69.1 13 ∧ m69.1 13 ≤ 6 := hm71.1 13
    have h81 : m69.1 14 = m.1 14 := hc72.1 14 rfl
    have h82 : 0 ≤ m69.1 14 ∧ m69.1 14 ≤ 10 := hm71.1 14
    have h83 : m69.1 18 = m.1 18 := hc72.1 18 rfl
    have h84 : (-1) ≤ m69.1 18 ∧ m69.1 18 ≤ 5 := hm71.1 18
    have t85 : kG m69 := kG_fr hc72 rfl rfl h_kG
    refine g_zret rfl rfl (by omega) ?_
    have h0 := p73
    rw [hp] at h0
    have e1 : m69.1 5 = SK (m.2.1 2) (m.1 3) (EP (m.2.1 2) (m.1 3) p) := by rw [p74, hp]
    have e2 : m69.1 6 = EP (m.2.1 2) (m.1 3) (EP (m.2.1 2) (m.1 3) p) := by rw [p75, hp]
    rcases h0 with ⟨rfl, q1, q2, q3, q4⟩ | ⟨rfl, q1⟩
    · have hK : LK (m.2.1 2) (m.1 3) p (m.1 13) (m.1 14) (m.1 16) = 1 := by unfold LK; rw [← hw, if_neg (show ¬ (w = -1) by omega), if_neg (show ¬ (w = 6) by omega), if_neg (show ¬ (w = 7 ∨ w = 10) by omega), if_pos (show w = 8 by omega), if_neg (show ¬ (NUM (m.2.1 2) (m.1 3) 0 (m.1 13 - 1) (EP (m.2.1 2) (m.1 3) p) = -1 ∨ hb (m.1 16) (NUM (m.2.1 2) (m.1 3) 0 (m.1 13 - 1) (EP (m.2.1 2) (m.1 3) p)) = 1 ∨ 4 ≤ pcn (m.1 16)) by omega)]
      have hLE : LE (m.2.1 2) (m.1 3) p = EP (m.2.1 2) (m.1 3) (EP (m.2.1 2) (m.1 3) p) := by unfold LE; rw [← hw, if_pos (show w = 6 ∨ w = 7 ∨ w = 8 ∨ w = 9 ∨ w = 10 by omega)]
      have hLR : LR (m.2.1 2) (m.1 3) p (m.1 13) = m.1 13 := by unfold LR; rw [← hw, if_neg (show ¬ (w = 6) by omega)]
      have hLD : LD (m.2.1 2) (m.1 3) p (m.1 14) = m.1 14 := by unfold LD; rw [← hw, if_neg (show ¬ (w = 6) by omega), if_neg (show ¬ (w ≤ 5) by omega)]
      have hLH : LH (m.2.1 2) (m.1 3) p (m.1 13) (m.1 16) = stb (m.1 16) (NUM (m.2.1 2) (m.1 3) 0 (m.1 13 - 1) (EP (m.2.1 2) (m.1 3) p)) := by unfold LH; rw [← hw, if_neg (show ¬ (w = 6) by omega), if_pos (show w = 8 by omega)]
      have hLY : LY (m.2.1 2) (m.1 3) p (m.1 13) (m.1 14) (m.2.1 10, m.2.1 11, m.2.1 12, m.2.1 13, m.1 18) = (m.2.1 10, m.2.1 11, m.2.1 12, m.2.1 13, m.1 18) := by unfold LY; rw [← hw, if_neg (show ¬ (w = 6) by omega), if_neg (show ¬ (w ≤ 5) by omega), if_neg (show ¬ (w = 10) by omega)]
      exact ⟨_, _, rfl, hm71, hf76, Or.inl ⟨rfl, hK, by rw [hLE]; exact e2, by rw [hLR]; exact hc72.1 13 rfl, by rw [hLD]; exact hc72.1 14 rfl, by rw [hLH]; exact q4, kG_fr hc72 rfl rfl h_kG, by rw [hLY]; exact kY_eq (hc72.2.1 10 rfl) (hc72.2.1 11 rfl) (hc72.2.1 12 rfl) (hc72.2.1 13 rfl) (hc72.1 18 rfl)⟩⟩
    · have hK : LK (m.2.1 2) (m.1 3) p (m.1 13) (m.1 14) (m.1 16) = 0 := by unfold LK; rw [← hw, if_neg (show ¬ (w = -1) by omega), if_neg (show ¬ (w = 6) by omega), if_neg (show ¬ (w = 7 ∨ w = 10) by omega), if_pos (show w = 8 by omega), if_pos (show NUM (m.2.1 2) (m.1 3) 0 (m.1 13 - 1) (EP (m.2.1 2) (m.1 3) p) = -1 ∨ hb (m.1 16) (NUM (m.2.1 2) (m.1 3) 0 (m.1 13 - 1) (EP (m.2.1 2) (m.1 3) p)) = 1 ∨ 4 ≤ pcn (m.1 16) by omega)]
      have hLQ : LQ (m.2.1 2) (m.1 3) p (m.1 13) (m.1 14) = SK (m.2.1 2) (m.1 3) (EP (m.2.1 2) (m.1 3) p) := by unfold LQ; rw [← hw, if_neg (show ¬ (w = -1) by omega), if_pos (show w = 6 ∨ w = 7 ∨ w = 8 ∨ w = 9 ∨ w = 10 by omega)]
      exact ⟨_, _, rfl, hm71, hf76, Or.inr ⟨rfl, hK, by rw [hLQ]; exact e1⟩⟩
  · refine g_tsw_in (tg := 111) (o9 := 110) (by omega) (by omega) rfl (by omega) (by omega) (by rw [kk6]; rfl) (by decide) ?_
    refine g_aload_n (n := 1) rfl rfl ?_
    refine g_aload_n (n := 0) rfl rfl ?_
    refine g_iconst rfl ?_
    refine g_iconst rfl ?_
    have h86 : 0 ≤ m.1 6 ∧ m.1 6 ≤ 200 := hm.1 6
    refine c_vI (i := 1) (ps := [vI 3, vI 0]) (r := [vR 9]) (as := [vR 1, vI 0, vI 3]) (cs' := 0) (sl' := 0) rfl rfl rfl rfl rfl rfl (kl_1 _) (c_nextNumber (d := d - 1) (q := q - (5 + 19)) (by omega) (by omega) hm (a := 0) (b := 3) (show 0 ≤ 0 ∧ 0 ≤ 6 by omega) (show 0 ≤ 3 ∧ 3 ≤ 6 by omega) (by omega)) (by omega) (show 5 + 19 ≤ q by omega) (Nat.le_of_ble_eq_true rfl) (Nat.le_of_ble_eq_true rfl) rfl rfl rfl ?_
    rintro z87 m88 ⟨hm90, hc91, p92, p93, p94, p95, p96, p97⟩
    have hf98 : fr [5, 6, 13, 14, 15, 16, 17, 18] [10, 11, 12, 13, 14] m m88 := fr_tr hf0 (fr_le hc91 rfl rfl)
    have h99 : m88.1 3 = m.1 3 := hc91.1 3 rfl
    have h100 : 0 ≤ m88.1 3 ∧ m88.1 3 ≤ 200 := hm90.1 3
    have h101 : m88.1 13 = m.1 13 := hc91.1 13 rfl
    have h102 : 2 ≤ m88.1 13 ∧ m88.1 13 ≤ 6 := hm90.1 13
    have h103 : m88.1 14 = m.1 14 := hc91.1 14 rfl
    have h104 : 0 ≤ m88.1 14 ∧ m88.1 14 ≤ 10 := hm90.1 14
    have h105 : m88.1 16 = m.1 16 := hc91.1 16 rfl
    have h106 : 0 ≤ m88.1 16 ∧ m88.1 16 ≤ 63 := hm90.1 16
    have h107 : m88.1 18 = m.1 18 := hc91.1 18 rfl
    have h108 : (-1) ≤ m88.1 18 ∧ m88.1 18 ≤ 5 := hm90.1 18
    have t109 : kG m88 := kG_fr hc91 rfl rfl h_kG
    refine g_putF (m' := (kF m88 17 z87)) rfl (kl_9 _) rfl rfl rfl rfl (kF_17 _ _) ?_
    have hm110 : kI (kF m88 17 z87) := kI_F hm90 17 (show ((-1) : Int) ≤ z87 by omega) (show z87 ≤ (3 : Int) by omega)
    have hf111 : fr [5, 6, 13, 14, 15, 16, 17, 18] [10, 11, 12, 13, 14] m (kF m88 17 z87) := fr_F hf98 17 _ rfl
    refine g_aload_n (n := 1) rfl rfl ?_
    refine g_getf (v := vI z87) rfl (kl_9 _) rfl ?_
    refine g_iconst rfl ?_
    refine g_icmp_eq (by omega) (by omega) (by decide) (by decide) rfl ?_ ?_
    · intro kk112
      refine g_iconst rfl ?_
      refine g_zret rfl rfl (by omega) ?_
      have e0 : z87 = NUM (m.2.1 2) (m.1 3) 0 3 (EP (m.2.1 2) (m.1 3) p) := by rw [p92, hp]
      have e1 : m88.1 5 = SK (m.2.1 2) (m.1 3) (EP (m.2.1 2) (m.1 3) p) := by rw [p93, hp]
      have e2 : m88.1 6 = EP (m.2.1 2) (m.1 3) (EP (m.2.1 2) (m.1 3) p) := by rw [p94, hp]
      have hK : LK (m.2.1 2) (m.1 3) p (m.1 13) (m.1 14) (m.1 16) = 0 := by unfold LK; rw [← hw, if_neg (show ¬ (w = -1) by omega), if_neg (show ¬ (w = 6) by omega), if_neg (show ¬ (w = 7 ∨ w = 10) by omega), if_neg (show ¬ (w = 8) by omega), if_pos (show w = 9 by omega), if_pos (show NUM (m.2.1 2) (m.1 3) 0 3 (EP (m.2.1 2) (m.1 3) p) = -1 by omega)]
      have hLQ : LQ (m.2.1 2) (m.1 3) p (m.1 13) (m.1 14) = SK (m.2.1 2) (m.1 3) (EP (m.2.1 2) (m.1 3) p) := by unfold LQ; rw [← hw, if_neg (show ¬ (w = -1) by omega), if_pos (show w = 6 ∨ w = 7 ∨ w = 8 ∨ w = 9 ∨ w = 10 by omega)]
      exact ⟨_, _, rfl, hm110, hf111, Or.inr ⟨rfl, hK, by rw [hLQ]; exact e1⟩⟩
    · intro kk113
      refine g_iconst rfl ?_
      refine g_goto rfl ?_
      refine g_zret rfl rfl (by omega) ?_
      have e0 : z87 = NUM (m.2.1 2) (m.1 3) 0 3 (EP (m.2.1 2) (m.1 3) p) := by rw [p92, hp]
      have e1 : m88.1 5 = SK (m.2.1 2) (m.1 3) (EP (m.2.1 2) (m.1 3) p) := by rw [p93, hp]
      have e2 : m88.1 6 = EP (m.2.1 2) (m.1 3) (EP (m.2.1 2) (m.1 3) p) := by rw [p94, hp]
      have hg := kG_fr hc91 rfl rfl h_kG
      have hK : LK (m.2.1 2) (m.1 3) p (m.1 13) (m.1 14) (m.1 16) = 1 := by unfold LK; rw [← hw, if_neg (show ¬ (w = -1) by omega), if_neg (show ¬ (w = 6) by omega), if_neg (show ¬ (w = 7 ∨ w = 10) by omega), if_neg (show ¬ (w = 8) by omega), if_pos (show w = 9 by omega), if_neg (show ¬ (NUM (m.2.1 2) (m.1 3) 0 3 (EP (m.2.1 2) (m.1 3) p) = -1) by omega)]
      have hLE : LE (m.2.1 2) (m.1 3) p = EP (m.2.1 2) (m.1 3) (EP (m.2.1 2) (m.1 3) p) := by unfold LE; rw [← hw, if_pos (show w = 6 ∨ w = 7 ∨ w = 8 ∨ w = 9 ∨ w = 10 by omega)]
      have hLR : LR (m.2.1 2) (m.1 3) p (m.1 13) = m.1 13 := by unfold LR; rw [← hw, if_neg (show ¬ (w = 6) by omega)]
      have hLD : LD (m.2.1 2) (m.1 3) p (m.1 14) = m.1 14 := by unfold LD; rw [← hw, if_neg (show ¬ (w = 6) by omega), if_neg (show ¬ (w ≤ 5) by omega)]
      have hLH : LH (m.2.1 2) (m.1 3) p (m.1 13) (m.1 16) = m.1 16 := by unfold LH; rw [← hw, if_neg (show ¬ (w = 6) by omega), if_neg (show ¬ (w = 8) by omega)]
      have hLY : LY (m.2.1 2) (m.1 3) p (m.1 13) (m.1 14) (m.2.1 10, m.2.1 11, m.2.1 12, m.2.1 13, m.1 18) = (m.2.1 10, m.2.1 11, m.2.1 12, m.2.1 13, m.1 18) := by unfold LY; rw [← hw, if_neg (show ¬ (w = 6) by omega), if_neg (show ¬ (w ≤ 5) by omega), if_neg (show ¬ (w = 10) by omega)]
      exact ⟨_, _, rfl, hm110, hf111, Or.inl ⟨rfl, hK, by rw [hLE]; exact e2, by rw [hLR]; exact hc91.1 13 rfl, by rw [hLD]; exact hc91.1 14 rfl, by rw [hLH]; exact hc91.1 16 rfl, ⟨hg.1, (show 0 ≤ z87 by omega), hg.2.2⟩, by rw [hLY]; exact kY_eq (hc91.2.1 10 rfl) (hc91.2.1 11 rfl) (hc91.2.1 12 rfl) (hc91.2.1 13 rfl) (hc91.1 18 rfl)⟩⟩
  · refine g_tsw_in (tg := 135) (o9 := 134) (by omega) (by omega) rfl (by omega) (by omega) (by rw [kk6]; rfl) (by decide) ?_
    refine g_aload_n (n := 1) rfl rfl ?_
    refine g_aload_n (n := 0) rfl rfl ?_
    refine g_iconst rfl ?_
    refine g_aload_n (n := 1) rfl rfl ?_
    refine g_getf (v := vI (m.1 13)) rfl (kl_9 _) rfl ?_
    refine g_iconst rfl ?_
    refine g_isub rfl ?_
    have h114 : 0 ≤ m.1 6 ∧ m.1 6 ≤ 200 := hm.1 6
    refine c_vI (i := 1) (ps := [vI (m.1 13 - 1), vI 0]) (r := [vR 9]) (as := [vR 1, vI 0, vI (m.1 13 - 1)]) (cs' := 0) (sl' := 0) rfl rfl rfl rfl rfl rfl (kl_1 _) (c_nextNumber (d := d - 1) (q := q - (5 + 19)) (by omega) (by omega) hm (a := 0) (b := (m.1 13 - 1)) (show 0 ≤ 0 ∧ 0 ≤ 6 by omega) (show 0 ≤ (m.1 13 - 1) ∧ (m.1 13 - 1) ≤ 6 by omega) (by omega)) (by omega) (show 5 + 19 ≤ q by omega) (Nat.le_of_ble_eq_true rfl) (Nat.le_of_ble_eq_true rfl) rfl rfl rfl ?_
    rintro z115 m116 ⟨hm118, hc119, p120, p121, p122, p123, p124, p125⟩
    have hf126 : fr [5, 6, 13, 14, 15, 16, 17, 18] [10, 11, 12, 13, 14] m m116 := fr_tr hf0 (fr_le hc119 rfl rfl)
    have h127 : m116.1 3 = m.1 3 := hc119.1 3 rfl
    have h128 : 0 ≤ m116.1 3 ∧ m116.1 3 ≤ 200 := hm118.1 3
    have h129 : m116.1 13 = m.1 13 := hc119.1 13 rfl
    have h130 : 2 ≤ m116.1 13 ∧ m116.1 13 ≤ 6 := hm118.1 13
    have h131 : m116.1 14 = m.1 14 := hc119.1 14 rfl
    have h132 : 0 ≤ m116.1 14 ∧ m116.1 14 ≤ 10 := hm118.1 14
    have h133 : m116.1 16 = m.1 16 := hc119.1 16 rfl
    have h134 : 0 ≤ m116.1 16 ∧ m116.1 16 ≤ 63 := hm118.1 16
    have h135 : m116.1 18 = m.1 18 := hc119.1 18 rfl
    have h136 : (-1) ≤ m116.1 18 ∧ m116.1 18 ≤ 5 := hm118.1 18
    have t137 : kG m116 := kG_fr hc119 rfl rfl h_kG
    refine g_putF (m' := (kF m116 18 z115)) rfl (kl_9 _) rfl rfl rfl rfl (kF_18 _ _) ?_
    have hm138 : kI (kF m116 18 z115) := kI_F hm118 18 (show ((-1) : Int) ≤ z115 by omega) (show z115 ≤ (5 : Int) by omega)
    have hf139 : fr [5, 6, 13, 14, 15, 16, 17, 18] [10, 11, 12, 13, 14] m (kF m116 18 z115) := fr_F hf126 18 _ rfl
    refine g_aload_n (n := 1) rfl rfl ?_
    refine g_getf (v := vI z115) rfl (kl_9 _) rfl ?_
    refine g_iconst rfl ?_
    refine g_icmp_eq (by omega) (by omega) (by decide) (by decide) rfl ?_ ?_
    · intro kk140
      refine g_iconst rfl ?_
      refine g_zret rfl rfl (by omega) ?_
      have e0 : z115 = NUM (m.2.1 2) (m.1 3) 0 (m.1 13 - 1) (EP (m.2.1 2) (m.1 3) p) := by rw [p120, hp]
      have e1 : m116.1 5 = SK (m.2.1 2) (m.1 3) (EP (m.2.1 2) (m.1 3) p) := by rw [p121, hp]
      have e2 : m116.1 6 = EP (m.2.1 2) (m.1 3) (EP (m.2.1 2) (m.1 3) p) := by rw [p122, hp]
      have hK : LK (m.2.1 2) (m.1 3) p (m.1 13) (m.1 14) (m.1 16) = 0 := by unfold LK; rw [← hw, if_neg (show ¬ (w = -1) by omega), if_neg (show ¬ (w = 6) by omega), if_pos (show w = 7 ∨ w = 10 by omega), if_pos (show NUM (m.2.1 2) (m.1 3) 0 (m.1 13 - 1) (EP (m.2.1 2) (m.1 3) p) = -1 by omega)]
      have hLQ : LQ (m.2.1 2) (m.1 3) p (m.1 13) (m.1 14) = SK (m.2.1 2) (m.1 3) (EP (m.2.1 2) (m.1 3) p) := by unfold LQ; rw [← hw, if_neg (show ¬ (w = -1) by omega), if_pos (show w = 6 ∨ w = 7 ∨ w = 8 ∨ w = 9 ∨ w = 10 by omega)]
      exact ⟨_, _, rfl, hm138, hf139, Or.inr ⟨rfl, hK, by rw [hLQ]; exact e1⟩⟩
    · intro kk141
      refine g_iconst rfl ?_
      refine g_goto rfl ?_
      refine g_zret rfl rfl (by omega) ?_
      have e0 : z115 = NUM (m.2.1 2) (m.1 3) 0 (m.1 13 - 1) (EP (m.2.1 2) (m.1 3) p) := by rw [p120, hp]
      have e1 : m116.1 5 = SK (m.2.1 2) (m.1 3) (EP (m.2.1 2) (m.1 3) p) := by rw [p121, hp]
      have e2 : m116.1 6 = EP (m.2.1 2) (m.1 3) (EP (m.2.1 2) (m.1 3) p) := by rw [p122, hp]
      have hg := kG_fr hc119 rfl rfl h_kG
      have hK : LK (m.2.1 2) (m.1 3) p (m.1 13) (m.1 14) (m.1 16) = 1 := by unfold LK; rw [← hw, if_neg (show ¬ (w = -1) by omega), if_neg (show ¬ (w = 6) by omega), if_pos (show w = 7 ∨ w = 10 by omega), if_neg (show ¬ (NUM (m.2.1 2) (m.1 3) 0 (m.1 13 - 1) (EP (m.2.1 2) (m.1 3) p) = -1) by omega)]
      have hLE : LE (m.2.1 2) (m.1 3) p = EP (m.2.1 2) (m.1 3) (EP (m.2.1 2) (m.1 3) p) := by unfold LE; rw [← hw, if_pos (show w = 6 ∨ w = 7 ∨ w = 8 ∨ w = 9 ∨ w = 10 by omega)]
      have hLR : LR (m.2.1 2) (m.1 3) p (m.1 13) = m.1 13 := by unfold LR; rw [← hw, if_neg (show ¬ (w = 6) by omega)]
      have hLD : LD (m.2.1 2) (m.1 3) p (m.1 14) = m.1 14 := by unfold LD; rw [← hw, if_neg (show ¬ (w = 6) by omega), if_neg (show ¬ (w ≤ 5) by omega)]
      have hLH : LH (m.2.1 2) (m.1 3) p (m.1 13) (m.1 16) = m.1 16 := by unfold LH; rw [← hw, if_neg (show ¬ (w = 6) by omega), if_neg (show ¬ (w = 8) by omega)]
      have hLY : LY (m.2.1 2) (m.1 3) p (m.1 13) (m.1 14) (m.2.1 10, m.2.1 11, m.2.1 12, m.2.1 13, m.1 18) = (m.2.1 10, m.2.1 11, m.2.1 12, m.2.1 13, NUM (m.2.1 2) (m.1 3) 0 (m.1 13 - 1) (EP (m.2.1 2) (m.1 3) p)) := by unfold LY; rw [← hw, if_neg (show ¬ (w = 6) by omega), if_neg (show ¬ (w ≤ 5) by omega), if_pos (show w = 10 by omega)]
      exact ⟨_, _, rfl, hm138, hf139, Or.inl ⟨rfl, hK, by rw [hLE]; exact e2, by rw [hLR]; exact hc119.1 13 rfl, by rw [hLD]; exact hc119.1 14 rfl, by rw [hLH]; exact hc119.1 16 rfl, ⟨hg.1, hg.2.1, (show 0 ≤ z115 by omega), hg.2.2.2⟩, by rw [hLY]; exact kY_eq (hc119.2.1 10 rfl) (hc119.2.1 11 rfl) (hc119.2.1 12 rfl) (hc119.2.1 13 rfl) (e0)⟩⟩
  · refine g_tsw_in (tg := 164) (o9 := 163) (by omega) (by omega) rfl (by omega) (by omega) (by rw [kk6]; rfl) (by decide) ?_
    refine g_aload_n (n := 0) rfl rfl ?_
    refine g_aload_n (n := 1) rfl rfl ?_
    have h142 : 0 ≤ m.1 6 ∧ m.1 6 ≤ 200 := hm.1 6
    refine c_vI (i := 1) (ps := [vR 9]) (r := []) (as := [vR 1, vR 9]) (cs' := 0) (sl' := 0) rfl rfl rfl rfl rfl rfl (kl_1 _) (c_readGuard (d := d - 1) (q := q - (3 + 19)) (by omega) (by omega) hm  h_kG (by omega)) (by omega) (show 3 + 19 ≤ q by omega) (Nat.le_of_ble_eq_true rfl) (Nat.le_of_ble_eq_true rfl) rfl rfl rfl ?_
    rintro z143 m144 ⟨hm146, hc147, p148⟩
    have hf149 : fr [5, 6, 13, 14, 15, 16, 17, 18] [10, 11, 12, 13, 14] m m144 := fr_tr hf0 (fr_le hc147 rfl rfl)
    have h150 : m144.1 3 = m.1 3 := hc147.1 3 rfl
    have h151 : 0 ≤ m144.1 3 ∧ m144.1 3 ≤ 200 := hm146.1 3
    have h152 : m144.1 13 = m.1 13 := hc147.1 13 rfl
    have h153 : 2 ≤ m144.1 13 ∧ m144.1 13 ≤ 6 := hm146.1 13
    have h154 : m144.1 14 = m.1 14 := hc147.1 14 rfl
    have h155 : 0 ≤ m144.1 14 ∧ m144.1 14 ≤ 10 := hm146.1 14
    have h156 : m144.1 16 = m.1 16 := hc147.1 16 rfl
    have h157 : 0 ≤ m144.1 16 ∧ m144.1 16 ≤ 63 := hm146.1 16
    have h158 : m144.1 18 = m.1 18 := hc147.1 18 rfl
    have h159 : (-1) ≤ m144.1 18 ∧ m144.1 18 ≤ 5 := hm146.1 18
    refine g_zret rfl rfl (by omega) ?_
    have h0 := p148
    rw [hp] at h0
    rcases h0 with ⟨rfl, q1, q2, q3, q4⟩ | ⟨rfl, ⟨q1, q2⟩ | ⟨q1, q2, q3⟩⟩
    · have hK : LK (m.2.1 2) (m.1 3) p (m.1 13) (m.1 14) (m.1 16) = 1 := by unfold LK; rw [← hw, if_neg (show ¬ (w = -1) by omega), if_neg (show ¬ (w = 6) by omega), if_neg (show ¬ (w = 7 ∨ w = 10) by omega), if_neg (show ¬ (w = 8) by omega), if_neg (show ¬ (w = 9) by omega), if_pos (show w = 11 by omega), if_neg (show ¬ (NUM (m.2.1 2) (m.1 3) 0 1 (EP (m.2.1 2) (m.1 3) p) = -1 ∨ NUM (m.2.1 2) (m.1 3) 0 (m.1 13 - 1) (EP (m.2.1 2) (m.1 3) (EP (m.2.1 2) (m.1 3) p)) = -1) by omega)]
      have hLE : LE (m.2.1 2) (m.1 3) p = EP (m.2.1 2) (m.1 3) (EP (m.2.1 2) (m.1 3) (EP (m.2.1 2) (m.1 3) p)) := by unfold LE; rw [← hw, if_neg (show ¬ (w = 6 ∨ w = 7 ∨ w = 8 ∨ w = 9 ∨ w = 10) by omega), if_pos (show w = 11 by omega)]
      have hLR : LR (m.2.1 2) (m.1 3) p (m.1 13) = m.1 13 := by unfold LR; rw [← hw, if_neg (show ¬ (w = 6) by omega)]
      have hLD : LD (m.2.1 2) (m.1 3) p (m.1 14) = m.1 14 := by unfold LD; rw [← hw, if_neg (show ¬ (w = 6) by omega), if_neg (show ¬ (w ≤ 5) by omega)]
      have hLH : LH (m.2.1 2) (m.1 3) p (m.1 13) (m.1 16) = m.1 16 := by unfold LH; rw [← hw, if_neg (show ¬ (w = 6) by omega), if_neg (show ¬ (w = 8) by omega)]
      have hLY : LY (m.2.1 2) (m.1 3) p (m.1 13) (m.1 14) (m.2.1 10, m.2.1 11, m.2.1 12, m.2.1 13, m.1 18) = (m.2.1 10, m.2.1 11, m.2.1 12, m.2.1 13, m.1 18) := by unfold LY; rw [← hw, if_neg (show ¬ (w = 6) by omega), if_neg (show ¬ (w ≤ 5) by omega), if_neg (show ¬ (w = 10) by omega)]
      exact ⟨_, _, rfl, hm146, hf149, Or.inl ⟨rfl, hK, by rw [hLE]; exact q3, by rw [hLR]; exact hc147.1 13 rfl, by rw [hLD]; exact hc147.1 14 rfl, by rw [hLH]; exact hc147.1 16 rfl, q4, by rw [hLY]; exact kY_eq (hc147.2.1 10 rfl) (hc147.2.1 11 rfl) (hc147.2.1 12 rfl) (hc147.2.1 13 rfl) (hc147.1 18 rfl)⟩⟩
    · have hK : LK (m.2.1 2) (m.1 3) p (m.1 13) (m.1 14) (m.1 16) = 0 := by unfold LK; rw [← hw, if_neg (show ¬ (w = -1) by omega), if_neg (show ¬ (w = 6) by omega), if_neg (show ¬ (w = 7 ∨ w = 10) by omega), if_neg (show ¬ (w = 8) by omega), if_neg (show ¬ (w = 9) by omega), if_pos (show w = 11 by omega), if_pos (show NUM (m.2.1 2) (m.1 3) 0 1 (EP (m.2.1 2) (m.1 3) p) = -1 ∨ NUM (m.2.1 2) (m.1 3) 0 (m.1 13 - 1) (EP (m.2.1 2) (m.1 3) (EP (m.2.1 2) (m.1 3) p)) = -1 by omega)]
      have hLQ : LQ (m.2.1 2) (m.1 3) p (m.1 13) (m.1 14) = SK (m.2.1 2) (m.1 3) (EP (m.2.1 2) (m.1 3) p) := by unfold LQ; rw [← hw, if_neg (show ¬ (w = -1) by omega), if_neg (show ¬ (w = 6 ∨ w = 7 ∨ w = 8 ∨ w = 9 ∨ w = 10) by omega), if_pos (show w = 11 by omega), if_pos (show NUM (m.2.1 2) (m.1 3) 0 1 (EP (m.2.1 2) (m.1 3) p) = -1 by omega)]
      exact ⟨_, _, rfl, hm146, hf149, Or.inr ⟨rfl, hK, by rw [hLQ]; exact q2⟩⟩
    · have hK : LK (m.2.1 2) (m.1 3) p (m.1 13) (m.1 14) (m.1 16) = 0 := by unfold LK; rw [← hw, if_neg (show ¬ (w = -1) by omega), if_neg (show ¬ (w = 6) by omega), if_neg (show ¬ (w = 7 ∨ w = 10) by omega), if_neg (show ¬ (w = 8) by omega), if_neg (show ¬ (w = 9) by omega), if_pos (show w = 11 by omega), if_pos (show NUM (m.2.1 2) (m.1 3) 0 1 (EP (m.2.1 2) (m.1 3) p) = -1 ∨ NUM (m.2.1 2) (m.1 3) 0 (m.1 13 - 1) (EP (m.2.1 2) (m.1 3) (EP (m.2.1 2) (m.1 3) p)) = -1 by omega)]
      have hLQ : LQ (m.2.1 2) (m.1 3) p (m.1 13) (m.1 14) = SK (m.2.1 2) (m.1 3) (EP (m.2.1 2) (m.1 3) (EP (m.2.1 2) (m.1 3) p)) := by unfold LQ; rw [← hw, if_neg (show ¬ (w = -1) by omega), if_neg (show ¬ (w = 6 ∨ w = 7 ∨ w = 8 ∨ w = 9 ∨ w = 10) by omega), if_pos (show w = 11 by omega), if_neg (show ¬ (NUM (m.2.1 2) (m.1 3) 0 1 (EP (m.2.1 2) (m.1 3) p) = -1) by omega)]
      exact ⟨_, _, rfl, hm146, hf149, Or.inr ⟨rfl, hK, by rw [hLQ]; exact q3⟩⟩
theorem c_readInto {V : cg_V} {d q : Nat} (hd : 6 ≤ d) (hq : 128 ≤ q) {m : kM} (hm : kI m) (h_kG : kG m) : cg_S V d q mX6_readInto [vR 1, vR 9] (kl m) (R_I (fun z m' => (kI m') ∧ (fr [4, 5, 6, 13, 14, 15, 16, 17, 18] [10, 11, 12, 13, 14] m m') ∧ (z = (RD (m.2.1 2) (m.1 3) 10 0 (m.1 13) (m.1 14) (m.1 16)).1) ∧ (z = -1 → (m'.1 13 = (RD (m.2.1 2) (m.1 3) 10 0 (m.1 13) (m.1 14) (m.1 16)).2.1 ∧ m'.1 14 = (RD (m.2.1 2) (m.1 3) 10 0 (m.1 13) (m.1 14) (m.1 16)).2.2.1 ∧ m'.1 16 = (RD (m.2.1 2) (m.1 3) 10 0 (m.1 13) (m.1 14) (m.1 16)).2.2.2.1 ∧ m'.1 4 = (RD (m.2.1 2) (m.1 3) 10 0 (m.1 13) (m.1 14) (m.1 16)).2.2.2.2 ∧ kG m' ∧ (m'.2.1 10, m'.2.1 11, m'.2.1 12, m'.2.1 13, m'.1 18) = (RG (m.2.1 2) (m.1 3) 10 0 (m.1 13) (m.1 14) (m.1 16) (m.2.1 10, m.2.1 11, m.2.1 12, m.2.1 13, m.1 18)))) ∧ (-1 ≤ z) ∧ (z ≤ 200))) := by
  have hf0 : fr [4, 5, 6, 13, 14, 15, 16, 17, 18] [10, 11, 12, 13, 14] m m := fr_rf m
  refine cg_of (List.mem_of_getElem? (show ae_MT[81]? = some mX6_readInto from rfl)) (Nat.le_of_ble_eq_true rfl) ?_
  show cg_G V mX6_readInto d q _ 0 [(0, vR 1), (1, vR 9)] [] (kl m) 0 0
  have h1 : 0 ≤ m.1 3 ∧ m.1 3 ≤ 200 := hm.1 3
  have h2 : 2 ≤ m.1 13 ∧ m.1 13 ≤ 6 := hm.1 13
  have h3 : 0 ≤ m.1 14 ∧ m.1 14 ≤ 10 := hm.1 14
  have h4 : 0 ≤ m.1 16 ∧ m.1 16 ≤ 63 := hm.1 16
  have h5 : (-1) ≤ m.1 18 ∧ m.1 18 ≤ 5 := hm.1 18
  refine g_aload_n (n := 0) rfl rfl ?_
  refine g_iconst rfl ?_
  refine g_putF (m' := (kF m 6 0)) rfl (kl_1 _) rfl rfl rfl rfl (kF_6 _ _) ?_
  have hm6 : kI (kF m 6 0) := kI_F hm 6 (show (0 : Int) ≤ 0 by omega) (show 0 ≤ (200 : Int) by omega)
  have hf7 : fr [4, 5, 6, 13, 14, 15, 16, 17, 18] [10, 11, 12, 13, 14] m (kF m 6 0) := fr_F hf0 6 _ rfl
  refine g_iconst rfl ?_
  refine g_istore_n (n := 2) (lo' := [(0, vR 1), (1, vR 9)]) rfl rfl ?_
  have L7_1 : ∀ (n7_1 : Nat) (l_1 : Int) (mL1 : kM), (kI mL1) → (fr [4, 5, 6, 13, 14, 15, 16, 17, 18] [10, 11, 12, 13, 14] m mL1) → (1 ≤ l_1 ∧ l_1 ≤ 11) → ((l_1 ≤ 10 ∧ RD (m.2.1 2) (m.1 3) (Int.toNat (11 - l_1)) (mL1.1 6) (mL1.1 13) (mL1.1 14) (mL1.1 16) = (RD (m.2.1 2) (m.1 3) 10 0 (m.1 13) (m.1 14) (m.1 16))) ∨ (l_1 = 11 ∧ (RD (m.2.1 2) (m.1 3) 10 0 (m.1 13) (m.1 14) (m.1 16)) = (mL1.1 5, 0, 0, 0, 0))) → (mL1.1 6 ≤ m.1 3) → (kG mL1) → (l_1 ≤ 10 → RG (m.2.1 2) (m.1 3) (Int.toNat (11 - l_1)) (mL1.1 6) (mL1.1 13) (mL1.1 14) (mL1.1 16) (mL1.2.1 10, mL1.2.1 11, mL1.2.1 12, mL1.2.1 13, mL1.1 18) = (RG (m.2.1 2) (m.1 3) 10 0 (m.1 13) (m.1 14) (m.1 16) (m.2.1 10, m.2.1 11, m.2.1 12, m.2.1 13, m.1 18))) → ((11 - l_1).toNat) = n7_1 → cg_G V mX6_readInto d q (R_I (fun z m' => (kI m') ∧ (fr [4, 5, 6, 13, 14, 15, 16, 17, 18] [10, 11, 12, 13, 14] m m') ∧ (z = (RD (m.2.1 2) (m.1 3) 10 0 (m.1 13) (m.1 14) (m.1 16)).1) ∧ (z = -1 → (m'.1 13 = (RD (m.2.1 2) (m.1 3) 10 0 (m.1 13) (m.1 14) (m.1 16)).2.1 ∧ m'.1 14 = (RD (m.2.1 2) (m.1 3) 10 0 (m.1 13) (m.1 14) (m.1 16)).2.2.1 ∧ m'.1 16 = (RD (m.2.1 2) (m.1 3) 10 0 (m.1 13) (m.1 14) (m.1 16)).2.2.2.1 ∧ m'.1 4 = (RD (m.2.1 2) (m.1 3) 10 0 (m.1 13) (m.1 14) (m.1 16)).2.2.2.2 ∧ kG m' ∧ (m'.2.1 10, m'.2.1 11, m'.2.1 12, m'.2.1 13, m'.1 18) = (RG (m.2.1 2) (m.1 3) 10 0 (m.1 13) (m.1 14) (m.1 16) (m.2.1 10, m.2.1 11, m.2.1 12, m.2.1 13, m.1 18)))) ∧ (-1 ≤ z) ∧ (z ≤ 200))) 7 [(2, vI l_1), (0, vR 1), (1, vR 9)] [] (kl mL1) 0 0 := by
    intro n7_1
    induction n7_1 using Nat.strongRecOn with
    | _ n7_1 ih7_1 =>
      intro l_1 mL1 hmL1 hfL1 i8 iR iL iG iY q9
      refine g_iload_n (n := 2) rfl rfl ?_
      refine g_bipush (by decide) rfl ?_
      refine g_icmp_gt (by omega) (by omega) (by decide) (by decide) rfl ?_ ?_
      · intro kk10
        refine g_aload_n (n := 0) rfl rfl ?_
        have h11 : 0 ≤ mL1.1 5 ∧ mL1.1 5 ≤ 200 := hmL1.1 5
        refine g_getf (v := vI (mL1.1 5)) rfl (kl_1 _) rfl ?_
        refine g_iret rfl rfl ?_
        have hz := (iR.resolve_left (fun h => by omega)).2
        exact ⟨_, _, rfl, hmL1, hfL1, (by rw [hz]), (fun h => by omega), by omega, by omega⟩
      · intro kk12
        refine g_aload_n (n := 0) rfl rfl ?_
        refine g_iload_n (n := 2) rfl rfl ?_
        refine g_putF (m' := (kF mL1 4 l_1)) rfl (kl_1 _) rfl rfl rfl rfl (kF_4 _ _) ?_
        have hm13 : kI (kF mL1 4 l_1) := kI_F hmL1 4 (show ((-2147483648) : Int) ≤ l_1 by omega) (show l_1 ≤ (2147483647 : Int) by omega)
        have hf14 : fr [4, 5, 6, 13, 14, 15, 16, 17, 18] [10, 11, 12, 13, 14] m (kF mL1 4 l_1) := fr_F hfL1 4 _ rfl
        refine g_aload_n (n := 0) rfl rfl ?_
        have h15 : 0 ≤ mL1.1 3 ∧ mL1.1 3 ≤ 200 := hmL1.1 3
        have h16 : mL1.1 3 = m.1 3 := hfL1.1 3 rfl
        have h17 : 0 ≤ mL1.1 6 ∧ mL1.1 6 ≤ 200 := hmL1.1 6
        have h18 : (kF mL1 4 l_1).1 3 = mL1.1 3 := rfl
        have h19 : (kF mL1 4 l_1).1 6 = mL1.1 6 := rfl
        refine c_vV (i := 1) (ps := []) (r := []) (as := [vR 1]) (cs' := 0) (sl' := 0) rfl rfl rfl rfl rfl rfl (kl_1 _) (c_nextToken (d := d - 1) (q := q - (1 + 19)) (by omega) (by omega) hm13  (by omega)) (by omega) (show 1 + 19 ≤ q by omega) (Nat.le_of_ble_eq_true rfl) (Nat.le_of_ble_eq_true rfl) rfl rfl rfl ?_
        rintro m21 ⟨hm23, hc24, p25, p26⟩
        have hf27 : fr [4, 5, 6, 13, 14, 15, 16, 17, 18] [10, 11, 12, 13, 14] m m21 := fr_tr hf14 (fr_le hc24 rfl rfl)
        have h28 : m21.1 3 = mL1.1 3 := hc24.1 3 rfl
        have h29 : 0 ≤ m21.1 3 ∧ m21.1 3 ≤ 200 := hm23.1 3
        have h30 : m21.1 4 = l_1 := hc24.1 4 rfl
        have h31 : (-2147483648) ≤ m21.1 4 ∧ m21.1 4 ≤ 2147483647 := hm23.1 4
        have t32 : kG m21 := kG_fr hc24 rfl rfl iG
        have aT : mL1.2.1 2 = m.2.1 2 := hfL1.2.1 2 rfl
        have aN : mL1.1 3 = m.1 3 := hfL1.1 3 rfl
        have bT : m21.2.1 2 = m.2.1 2 := (hc24.2.1 2 rfl).trans aT
        have bN : m21.1 3 = m.1 3 := (hc24.1 3 rfl).trans aN
        have bs : m21.1 5 = SK (m21.2.1 2) (m21.1 3) (mL1.1 6) := by rw [bT, bN, ← aT, ← aN]; exact p25
        have bp : m21.1 6 = EP (m21.2.1 2) (m21.1 3) (mL1.1 6) := by rw [bT, bN, ← aT, ← aN]; exact p26
        have hl9 : l_1 ≤ 10 := by omega
        have hI := iR.resolve_right (fun h => by omega)
        have ek : Int.toNat (11 - l_1) = Int.toNat (10 - l_1) + 1 := by omega
        refine g_aload_n (n := 0) rfl rfl ?_
        refine g_aload_n (n := 1) rfl rfl ?_
        refine g_aload_n (n := 0) rfl rfl ?_
        have h33 : 0 ≤ m21.1 5 ∧ m21.1 5 ≤ 200 := hm23.1 5
        have h34 : 0 ≤ m21.1 6 ∧ m21.1 6 ≤ 200 := hm23.1 6
        refine c_vI (i := 1) (ps := []) (r := [vR 9, vR 1]) (as := [vR 1]) (cs' := 0) (sl' := 0) rfl rfl rfl rfl rfl rfl (kl_1 _) (c_wordHere (d := d - 1) (q := q - (2 + 19)) (by omega) (by omega) hm23  ) (by omega) (show 2 + 19 ≤ q by omega) (Nat.le_of_ble_eq_true rfl) (Nat.le_of_ble_eq_true rfl) rfl rfl rfl ?_
        rintro z35 m36 ⟨rfl, p38, p39, p40⟩
        have bw : z35 = LW (m21.2.1 2) (m21.1 3) (mL1.1 6) := by rw [p38, bs, bp]; rfl
        have h41 : 2 ≤ m21.1 13 ∧ m21.1 13 ≤ 6 := hm23.1 13
        have h42 : m21.1 13 = mL1.1 13 := hc24.1 13 rfl
        have h43 : 0 ≤ m21.1 14 ∧ m21.1 14 ≤ 10 := hm23.1 14
        have h44 : m21.1 14 = mL1.1 14 := hc24.1 14 rfl
        have h45 : 0 ≤ m21.1 16 ∧ m21.1 16 ≤ 63 := hm23.1 16
        have h46 : m21.1 16 = mL1.1 16 := hc24.1 16 rfl
        have h47 : (-1) ≤ m21.1 18 ∧ m21.1 18 ≤ 5 := hm23.1 18
        have h48 : m21.1 18 = mL1.1 18 := hc24.1 18 rfl
        refine c_vI (i := 1) (ps := [vI z35, vR 9]) (r := []) (as := [vR 1, vR 9, vI z35]) (cs' := 0) (sl' := 0) rfl rfl rfl rfl rfl rfl (kl_1 _) (c_readLine (d := d - 1) (q := q - (3 + 19)) (by omega) (by omega) hm23 (w := z35) (show (-1) ≤ z35 ∧ z35 ≤ 11 by omega) t32 (show mL1.1 6 ≤ m21.1 3 by omega) bw bs bp) (by omega) (show 3 + 19 ≤ q by omega) (Nat.le_of_ble_eq_true rfl) (Nat.le_of_ble_eq_true rfl) rfl rfl rfl ?_
        rintro z49 m50 ⟨hm52, hc53, p54⟩
        have hf55 : fr [4, 5, 6, 13, 14, 15, 16, 17, 18] [10, 11, 12, 13, 14] m m50 := fr_tr hf27 (fr_le hc53 rfl rfl)
        have h56 : m50.1 3 = m21.1 3 := hc53.1 3 rfl
        have h57 : 0 ≤ m50.1 3 ∧ m50.1 3 ≤ 200 := hm52.1 3
        have h58 : m50.1 4 = m21.1 4 := hc53.1 4 rfl
        have h59 : (-2147483648) ≤ m50.1 4 ∧ m50.1 4 ≤ 2147483647 := hm52.1 4
        have b13 : m21.1 13 = mL1.1 13 := hc24.1 13 rfl
        have b14 : m21.1 14 = mL1.1 14 := hc24.1 14 rfl
        have b16 : m21.1 16 = mL1.1 16 := hc24.1 16 rfl
        have h0 := p54
        rw [bT, bN, b13, b14, b16] at h0
        have hRD : RD (m.2.1 2) (m.1 3) (Int.toNat (11 - l_1)) (mL1.1 6) (mL1.1 13) (mL1.1 14) (mL1.1 16) = (RD (m.2.1 2) (m.1 3) 10 0 (m.1 13) (m.1 14) (m.1 16)) := hI.2
        rw [ek] at hRD
        have hRG := iY hl9
        rw [ek] at hRG
        have bY : (m21.2.1 10, m21.2.1 11, m21.2.1 12, m21.2.1 13, m21.1 18) = (mL1.2.1 10, mL1.2.1 11, mL1.2.1 12, mL1.2.1 13, mL1.1 18) := kY_eq (hc24.2.1 10 rfl) (hc24.2.1 11 rfl) (hc24.2.1 12 rfl) (hc24.2.1 13 rfl) (hc24.1 18 rfl)
        rw [bY] at h0
        refine g_if_ne (by omega) (by omega) rfl ?_ ?_
        · intro kk60
          obtain ⟨-, k1, k2, k3, k4, k5, k6, k7⟩ := h0.resolve_right (by omega)
          have hAF : AF (RD (m.2.1 2) (m.1 3) (Int.toNat (10 - l_1))) (m.2.1 2) (m.1 3) (Int.toNat (10 - l_1)) (m50.1 6) (m50.1 13) (m50.1 14) (m50.1 16) = (RD (m.2.1 2) (m.1 3) 10 0 (m.1 13) (m.1 14) (m.1 16)) := by
            rw [k2, k3, k4, k5, ← hRD]
            exact (if_neg (show ¬ (LK (m.2.1 2) (m.1 3) (mL1.1 6) (mL1.1 13) (mL1.1 14) (mL1.1 16) = 0) by omega)).symm
          have hAG : AG (RG (m.2.1 2) (m.1 3) (Int.toNat (10 - l_1))) (m.2.1 2) (m.1 3) (Int.toNat (10 - l_1)) (m50.1 6) (m50.1 13) (m50.1 14) (m50.1 16) (m50.2.1 10, m50.2.1 11, m50.2.1 12, m50.2.1 13, m50.1 18) = (RG (m.2.1 2) (m.1 3) 10 0 (m.1 13) (m.1 14) (m.1 16) (m.2.1 10, m.2.1 11, m.2.1 12, m.2.1 13, m.1 18)) := by
            rw [k2, k3, k4, k5, k7, ← hRG, RG_s]
            exact (if_neg (show ¬ (LK (m.2.1 2) (m.1 3) (mL1.1 6) (mL1.1 13) (mL1.1 14) (mL1.1 16) = 0) by omega)).symm
          have cT : m50.2.1 2 = m.2.1 2 := (hc53.2.1 2 rfl).trans bT
          have cN : m50.1 3 = m.1 3 := (hc53.1 3 rfl).trans bN
          have hel := LE_rng (t := m.2.1 2) (show mL1.1 6 ≤ m.1 3 by omega)
          have he3 : m50.1 6 ≤ m50.1 3 := by omega
          refine g_aload_n (n := 0) rfl rfl ?_
          have h61 : 0 ≤ m50.1 6 ∧ m50.1 6 ≤ 200 := hm52.1 6
          refine c_vV (i := 1) (ps := []) (r := []) (as := [vR 1]) (cs' := 0) (sl' := 0) rfl rfl rfl rfl rfl rfl (kl_1 _) (c_nextToken (d := d - 1) (q := q - (1 + 19)) (by omega) (by omega) hm52  (by omega)) (by omega) (show 1 + 19 ≤ q by omega) (Nat.le_of_ble_eq_true rfl) (Nat.le_of_ble_eq_true rfl) rfl rfl rfl ?_
          rintro m63 ⟨hm65, hc66, p67, p68⟩
          have hf69 : fr [4, 5, 6, 13, 14, 15, 16, 17, 18] [10, 11, 12, 13, 14] m m63 := fr_tr hf55 (fr_le hc66 rfl rfl)
          have h70 : m63.1 3 = m50.1 3 := hc66.1 3 rfl
          have h71 : 0 ≤ m63.1 3 ∧ m63.1 3 ≤ 200 := hm65.1 3
          have h72 : m63.1 4 = m50.1 4 := hc66.1 4 rfl
          have h73 : (-2147483648) ≤ m63.1 4 ∧ m63.1 4 ≤ 2147483647 := hm65.1 4
          have t74 : kG m63 := kG_fr hc66 rfl rfl k6
          have ds : m63.1 5 = SK (m.2.1 2) (m.1 3) (m50.1 6) := by rw [p67, cT, cN]
          have dp : m63.1 6 = EP (m.2.1 2) (m.1 3) (m50.1 6) := by rw [p68, cT, cN]
          have hEp := EP_rng (t := m.2.1 2) (show m50.1 6 ≤ m.1 3 by omega)
          have eQ : m50.2.1 2 (m63.1 5) = m.2.1 2 (m63.1 5) := by rw [cT]
          unfold AF at hAF
          rw [← ds, ← dp] at hAF
          unfold AG at hAG
          rw [← ds, ← dp] at hAG
          have dY : (m63.2.1 10, m63.2.1 11, m63.2.1 12, m63.2.1 13, m63.1 18) = (m50.2.1 10, m50.2.1 11, m50.2.1 12, m50.2.1 13, m50.1 18) := kY_eq (hc66.2.1 10 rfl) (hc66.2.1 11 rfl) (hc66.2.1 12 rfl) (hc66.2.1 13 rfl) (hc66.1 18 rfl)
          refine g_aload_n (n := 0) rfl rfl ?_
          have h75 : 0 ≤ m63.1 5 ∧ m63.1 5 ≤ 200 := hm65.1 5
          refine g_getf (v := vI (m63.1 5)) rfl (kl_1 _) rfl ?_
          refine g_aload_n (n := 0) rfl rfl ?_
          refine g_getf (v := vI (m63.1 3)) rfl (kl_1 _) rfl ?_
          refine g_icmp_ne (by omega) (by omega) (by omega) (by omega) rfl ?_ ?_
          · intro kk76
            refine g_aload_n (n := 0) rfl rfl ?_
            refine g_getf (v := vR 2) rfl (kl_1 _) rfl ?_
            refine g_aload_n (n := 0) rfl rfl ?_
            refine g_getf (v := vI (m63.1 5)) rfl (kl_1 _) rfl ?_
            have h77 : 0 ≤ m63.2.1 2 (m63.1 5) ∧ m63.2.1 2 (m63.1 5) ≤ 255 := hm65.2 2 (m63.1 5) (by omega) (show m63.1 5 < (200 : Int) by omega)
            have h78 : m63.2.1 2 (m63.1 5) = m50.2.1 2 (m63.1 5) := congrFun (hc66.2.1 2 rfl) _
            refine g_iald (f := m63.2.1 2) rfl (kl_2 _) (by decide) (by omega) (by omega) ?_
            refine g_bipush (by decide) rfl ?_
            refine g_icmp_eq (by omega) (by omega) (by decide) (by decide) rfl ?_ ?_
            · intro kk79
              have f13 : m63.1 13 = m50.1 13 := hc66.1 13 rfl
              have f14 : m63.1 14 = m50.1 14 := hc66.1 14 rfl
              have f16 : m63.1 16 = m50.1 16 := hc66.1 16 rfl
              have e59 : m.2.1 2 (m63.1 5) = 59 := by omega
              have hn : (l_1 + 1 ≤ 10 ∧ RD (m.2.1 2) (m.1 3) (Int.toNat (11 - (l_1 + 1))) (m63.1 6) (m63.1 13) (m63.1 14) (m63.1 16) = (RD (m.2.1 2) (m.1 3) 10 0 (m.1 13) (m.1 14) (m.1 16))) ∨ (l_1 + 1 = 11 ∧ (RD (m.2.1 2) (m.1 3) 10 0 (m.1 13) (m.1 14) (m.1 16)) = (m63.1 5, 0, 0, 0, 0)) := by
                rw [if_neg (show ¬ (m63.1 5 = m.1 3) by omega)] at hAF
                by_cases e : l_1 = 10
                · right; refine ⟨by omega, ?_⟩; rw [if_pos (Or.inr (by omega))] at hAF; exact hAF.symm
                · left; refine ⟨by omega, ?_⟩; rw [if_neg (fun h => h.elim (fun h => h e59) (fun h => by omega))] at hAF; rw [f13, f14, f16, show Int.toNat (11 - (l_1 + 1)) = Int.toNat (10 - l_1) by omega]; exact hAF
              have hnY : l_1 + 1 ≤ 10 → RG (m.2.1 2) (m.1 3) (Int.toNat (11 - (l_1 + 1))) (m63.1 6) (m63.1 13) (m63.1 14) (m63.1 16) (m63.2.1 10, m63.2.1 11, m63.2.1 12, m63.2.1 13, m63.1 18) = (RG (m.2.1 2) (m.1 3) 10 0 (m.1 13) (m.1 14) (m.1 16) (m.2.1 10, m.2.1 11, m.2.1 12, m.2.1 13, m.1 18)) := by
                intro hl
                rw [if_neg (show ¬ (m63.1 5 = m.1 3) by omega), if_neg (fun h => h.elim (fun h => h e59) (fun h => by omega))] at hAG
                rw [f13, f14, f16, dY, show Int.toNat (11 - (l_1 + 1)) = Int.toNat (10 - l_1) by omega]
                exact hAG
              refine g_iinc (n := 2) (lo' := [(0, vR 1), (1, vR 9)]) rfl rfl rfl ?_
              refine g_goto rfl ?_
              exact ih7_1 _ (by omega) (l_1 + 1) m63 hm65 hf69 (by omega) hn (by omega) t74 hnY rfl
            · intro kk80
              refine g_aload_n (n := 0) rfl rfl ?_
              refine g_getf (v := vI (m63.1 5)) rfl (kl_1 _) rfl ?_
              refine g_iret rfl rfl ?_
              rw [if_neg (show ¬ (m63.1 5 = m.1 3) by omega), if_pos (Or.inl (by omega))] at hAF
              exact ⟨_, _, rfl, hm65, hf69, (by rw [← hAF]), (fun h => by omega), by omega, by omega⟩
          · intro kk81
            refine g_iconst rfl ?_
            refine g_iret rfl rfl ?_
            rw [if_pos (show m63.1 5 = m.1 3 by omega)] at hAF hAG
            have e4 : m63.1 4 = l_1 := (hc66.1 4 rfl).trans ((hc53.1 4 rfl).trans (hc24.1 4 rfl))
            exact ⟨_, _, rfl, hm65, hf69, (by rw [← hAF]), (fun _ => ⟨by rw [← hAF]; exact hc66.1 13 rfl, by rw [← hAF]; exact hc66.1 14 rfl, by rw [← hAF]; exact hc66.1 16 rfl, by rw [← hAF]; show m63.1 4 = 10 - ((Int.toNat (10 - l_1) : Nat) : Int); omega, t74, dY.trans hAG⟩), by omega, by omega⟩
        · intro kk82
          refine g_aload_n (n := 0) rfl rfl ?_
          have h83 : 0 ≤ m50.1 5 ∧ m50.1 5 ≤ 200 := hm52.1 5
          refine g_getf (v := vI (m50.1 5)) rfl (kl_1 _) rfl ?_
          refine g_iret rfl rfl ?_
          obtain ⟨-, k1, k2⟩ := h0.resolve_left (by omega)
          have hz : (RD (m.2.1 2) (m.1 3) 10 0 (m.1 13) (m.1 14) (m.1 16)) = (m50.1 5, 0, 0, 0, 0) := by rw [← hRD, k2]; exact if_pos k1
          exact ⟨_, _, rfl, hm52, hf55, (by rw [hz]), (fun h => by omega), by omega, by omega⟩
  have h84 : (kF m 6 0).1 6 = 0 := rfl
  exact L7_1 _ 1 (kF m 6 0) hm6 hf7 (by omega) (Or.inl ⟨by decide, rfl⟩) (show (0 : Int) ≤ m.1 3 by omega) h_kG (fun _ => rfl) rfl
