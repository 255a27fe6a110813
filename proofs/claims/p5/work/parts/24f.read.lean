/-! ===== contracts: the class, lines and texts ===== -/
theorem c_readLine {V : cg_V} {d q : Nat} (hd : 4 ≤ d) (hq : 89 ≤ q) {m : kM} (hm : kI m) {w : Int} (h_w : (-1) ≤ w ∧ w ≤ 11) (h_kG : kG m) {p : Int} (he : p ≤ m.1 3) (hw : w = LW (m.2.1 2) (m.1 3) p) (hs : m.1 5 = SK (m.2.1 2) (m.1 3) p) (hp : m.1 6 = EP (m.2.1 2) (m.1 3) p) : cg_S V d q mX6_readLine [vR 1, vR 9, vI w] (kl m) (R_I (fun z m' => (kI m') ∧ (fr [5, 6, 13, 14, 15, 16, 17, 18] [10, 11, 12, 13, 14] m m') ∧ ((z = 1 ∧ LK (m.2.1 2) (m.1 3) p (m.1 13) (m.1 14) (m.1 16) = 1 ∧ m'.1 6 = LE (m.2.1 2) (m.1 3) p ∧ m'.1 13 = LR (m.2.1 2) (m.1 3) p (m.1 13) ∧ m'.1 14 = LD (m.2.1 2) (m.1 3) p (m.1 14) ∧ m'.1 16 = LH (m.2.1 2) (m.1 3) p (m.1 13) (m.1 16) ∧ kG m') ∨ (z = 0 ∧ LK (m.2.1 2) (m.1 3) p (m.1 13) (m.1 14) (m.1 16) = 0 ∧ m'.1 5 = LQ (m.2.1 2) (m.1 3) p (m.1 13) (m.1 14))))) := by
  have hf0 : fr [5, 6, 13, 14, 15, 16, 17, 18] [10, 11, 12, 13, 14] m m := fr_rf m
  refine cg_of (List.mem_of_getElem? (show ae_MT[80]? = some mX6_readLine from rfl)) (Nat.le_of_ble_eq_true rfl) ?_
  show cg_G V mX6_readLine d q _ 0 [(0, vR 1), (1, vR 9), (2, vI w)] [] (kl m) 0 0
  have h1 : 0 ≤ m.1 3 ∧ m.1 3 ≤ 200 := hm.1 3
  have h2 : 2 ≤ m.1 13 ∧ m.1 13 ≤ 6 := hm.1 13
  have h3 : 0 ≤ m.1 14 ∧ m.1 14 ≤ 10 := hm.1 14
  have h4 : 0 ≤ m.1 16 ∧ m.1 16 ≤ 63 := hm.1 16
  have hEp := EP_rng (t := m.2.1 2) he
  have he6 : m.1 6 ≤ m.1 3 := by omega
  refine g_iload_n (n := 2) rfl rfl ?_
  have kk5 : w = (-1) ∨ w = 0 ∨ w = 1 ∨ w = 2 ∨ w = 3 ∨ w = 4 ∨ w = 5 ∨ w = 6 ∨ w = 7 ∨ w = 8 ∨ w = 9 ∨ w = 10 ∨ w = 11 := by omega
  have J6 : 0 ≤ w ∧ w ≤ 5 → cg_G V mX6_readLine d q (R_I (fun z m' => (kI m') ∧ (fr [5, 6, 13, 14, 15, 16, 17, 18] [10, 11, 12, 13, 14] m m') ∧ ((z = 1 ∧ LK (m.2.1 2) (m.1 3) p (m.1 13) (m.1 14) (m.1 16) = 1 ∧ m'.1 6 = LE (m.2.1 2) (m.1 3) p ∧ m'.1 13 = LR (m.2.1 2) (m.1 3) p (m.1 13) ∧ m'.1 14 = LD (m.2.1 2) (m.1 3) p (m.1 14) ∧ m'.1 16 = LH (m.2.1 2) (m.1 3) p (m.1 13) (m.1 16) ∧ kG m') ∨ (z = 0 ∧ LK (m.2.1 2) (m.1 3) p (m.1 13) (m.1 14) (m.1 16) = 0 ∧ m'.1 5 = LQ (m.2.1 2) (m.1 3) p (m.1 13) (m.1 14))))) 170 [(0, vR 1), (1, vR 9), (2, vI w)] [] (kl m) 0 0 := by
    intro kk7
    refine g_aload_n (n := 0) rfl rfl ?_
    refine g_aload_n (n := 1) rfl rfl ?_
    refine g_iload_n (n := 2) rfl rfl ?_
    have h8 : 0 ≤ m.1 5 ∧ m.1 5 ≤ 200 := hm.1 5
    have h9 : 0 ≤ m.1 6 ∧ m.1 6 ≤ 200 := hm.1 6
    refine c_vI (i := 1) (ps := [vI w, vR 9]) (r := []) (as := [vR 1, vR 9, vI w]) (cs' := 0) (sl' := 0) rfl rfl rfl rfl rfl rfl (kl_1 _) (c_readDoor (d := d - 1) (q := q - (6 + 19)) (by omega) (by omega) hm (k := w) (show 0 ≤ w ∧ w ≤ 5 by omega) (by omega)) (by omega) (show 6 + 19 ≤ q by omega) (Nat.le_of_ble_eq_true rfl) (Nat.le_of_ble_eq_true rfl) rfl rfl rfl ?_
    rintro z10 m11 ⟨hm13, hc14, p15⟩
    have hf16 : fr [5, 6, 13, 14, 15, 16, 17, 18] [10, 11, 12, 13, 14] m m11 := fr_tr hf0 (fr_le hc14 rfl rfl)
    have h17 : m11.1 3 = m.1 3 := hc14.1 3 rfl
    have h18 : 0 ≤ m11.1 3 ∧ m11.1 3 ≤ 200 := hm13.1 3
    have h19 : m11.1 13 = m.1 13 := hc14.1 13 rfl
    have h20 : 2 ≤ m11.1 13 ∧ m11.1 13 ≤ 6 := hm13.1 13
    have h21 : m11.1 16 = m.1 16 := hc14.1 16 rfl
    have h22 : 0 ≤ m11.1 16 ∧ m11.1 16 ≤ 63 := hm13.1 16
    have t23 : kG m11 := kG_fr hc14 rfl rfl h_kG
    refine g_zret rfl rfl (by omega) ?_
    have h0 := p15
    rw [hp] at h0
    rcases h0 with ⟨rfl, q1, q2, q3, q4, q5, q6⟩ | ⟨rfl, ⟨q1, q2⟩ | ⟨q1, q2, q3⟩ | ⟨q1, q2, q3, q4⟩ | ⟨q1, q2, q3, q4, q5⟩⟩
    · have hK : LK (m.2.1 2) (m.1 3) p (m.1 13) (m.1 14) (m.1 16) = 1 := by unfold LK; rw [← hw, if_neg (show ¬ (w = -1) by omega), if_neg (show ¬ (w = 6) by omega), if_neg (show ¬ (w = 7 ∨ w = 10) by omega), if_neg (show ¬ (w = 8) by omega), if_neg (show ¬ (w = 9) by omega), if_neg (show ¬ (w = 11) by omega), if_neg (show ¬ (10 ≤ m.1 14 ∨ NUM (m.2.1 2) (m.1 3) 0 (m.1 13 - 1) (EP (m.2.1 2) (m.1 3) p) = -1 ∨ NUM (m.2.1 2) (m.1 3) 0 (m.1 13 - 1) (EP (m.2.1 2) (m.1 3) (EP (m.2.1 2) (m.1 3) p)) = -1 ∨ NUM (m.2.1 2) (m.1 3) 0 (m.1 13 - 1) (EP (m.2.1 2) (m.1 3) (EP (m.2.1 2) (m.1 3) p)) = NUM (m.2.1 2) (m.1 3) 0 (m.1 13 - 1) (EP (m.2.1 2) (m.1 3) p) ∨ NUM (m.2.1 2) (m.1 3) 0 1 (EP (m.2.1 2) (m.1 3) (EP (m.2.1 2) (m.1 3) (EP (m.2.1 2) (m.1 3) p))) = -1) by omega)]
      have hLE : LE (m.2.1 2) (m.1 3) p = EP (m.2.1 2) (m.1 3) (EP (m.2.1 2) (m.1 3) (EP (m.2.1 2) (m.1 3) (EP (m.2.1 2) (m.1 3) p))) := by unfold LE; rw [← hw, if_neg (show ¬ (w = 6 ∨ w = 7 ∨ w = 8 ∨ w = 9 ∨ w = 10) by omega), if_neg (show ¬ (w = 11) by omega)]
      have hLR : LR (m.2.1 2) (m.1 3) p (m.1 13) = m.1 13 := by unfold LR; rw [← hw, if_neg (show ¬ (w = 6) by omega)]
      have hLD : LD (m.2.1 2) (m.1 3) p (m.1 14) = m.1 14 + 1 := by unfold LD; rw [← hw, if_neg (show ¬ (w = 6) by omega), if_pos (show w ≤ 5 by omega)]
      have hLH : LH (m.2.1 2) (m.1 3) p (m.1 13) (m.1 16) = m.1 16 := by unfold LH; rw [← hw, if_neg (show ¬ (w = 6) by omega), if_neg (show ¬ (w = 8) by omega)]
      exact ⟨_, _, rfl, hm13, hf16, Or.inl ⟨rfl, hK, by rw [hLE]; exact q5, by rw [hLR]; exact hc14.1 13 rfl, by rw [hLD]; exact q6, by rw [hLH]; exact hc14.1 16 rfl, kG_fr hc14 rfl rfl h_kG⟩⟩
    · have hK : LK (m.2.1 2) (m.1 3) p (m.1 13) (m.1 14) (m.1 16) = 0 := by unfold LK; rw [← hw, if_neg (show ¬ (w = -1) by omega), if_neg (show ¬ (w = 6) by omega), if_neg (show ¬ (w = 7 ∨ w = 10) by omega), if_neg (show ¬ (w = 8) by omega), if_neg (show ¬ (w = 9) by omega), if_neg (show ¬ (w = 11) by omega), if_pos (show 10 ≤ m.1 14 ∨ NUM (m.2.1 2) (m.1 3) 0 (m.1 13 - 1) (EP (m.2.1 2) (m.1 3) p) = -1 ∨ NUM (m.2.1 2) (m.1 3) 0 (m.1 13 - 1) (EP (m.2.1 2) (m.1 3) (EP (m.2.1 2) (m.1 3) p)) = -1 ∨ NUM (m.2.1 2) (m.1 3) 0 (m.1 13 - 1) (EP (m.2.1 2) (m.1 3) (EP (m.2.1 2) (m.1 3) p)) = NUM (m.2.1 2) (m.1 3) 0 (m.1 13 - 1) (EP (m.2.1 2) (m.1 3) p) ∨ NUM (m.2.1 2) (m.1 3) 0 1 (EP (m.2.1 2) (m.1 3) (EP (m.2.1 2) (m.1 3) (EP (m.2.1 2) (m.1 3) p))) = -1 by omega)]
      have hLQ : LQ (m.2.1 2) (m.1 3) p (m.1 13) (m.1 14) = SK (m.2.1 2) (m.1 3) p := by unfold LQ; rw [← hw, if_neg (show ¬ (w = -1) by omega), if_neg (show ¬ (w = 6 ∨ w = 7 ∨ w = 8 ∨ w = 9 ∨ w = 10) by omega), if_neg (show ¬ (w = 11) by omega), if_pos (show 10 ≤ m.1 14 by omega)]
      exact ⟨_, _, rfl, hm13, hf16, Or.inr ⟨rfl, hK, by rw [hLQ]; exact q2.trans hs⟩⟩
    · have hK : LK (m.2.1 2) (m.1 3) p (m.1 13) (m.1 14) (m.1 16) = 0 := by unfold LK; rw [← hw, if_neg (show ¬ (w = -1) by omega), if_neg (show ¬ (w = 6) by omega), if_neg (show ¬ (w = 7 ∨ w = 10) by omega), if_neg (show ¬ (w = 8) by omega), if_neg (show ¬ (w = 9) by omega), if_neg (show ¬ (w = 11) by omega), if_pos (show 10 ≤ m.1 14 ∨ NUM (m.2.1 2) (m.1 3) 0 (m.1 13 - 1) (EP (m.2.1 2) (m.1 3) p) = -1 ∨ NUM (m.2.1 2) (m.1 3) 0 (m.1 13 - 1) (EP (m.2.1 2) (m.1 3) (EP (m.2.1 2) (m.1 3) p)) = -1 ∨ NUM (m.2.1 2) (m.1 3) 0 (m.1 13 - 1) (EP (m.2.1 2) (m.1 3) (EP (m.2.1 2) (m.1 3) p)) = NUM (m.2.1 2) (m.1 3) 0 (m.1 13 - 1) (EP (m.2.1 2) (m.1 3) p) ∨ NUM (m.2.1 2) (m.1 3) 0 1 (EP (m.2.1 2) (m.1 3) (EP (m.2.1 2) (m.1 3) (EP (m.2.1 2) (m.1 3) p))) = -1 by omega)]
      have hLQ : LQ (m.2.1 2) (m.1 3) p (m.1 13) (m.1 14) = SK (m.2.1 2) (m.1 3) (EP (m.2.1 2) (m.1 3) p) := by unfold LQ; rw [← hw, if_neg (show ¬ (w = -1) by omega), if_neg (show ¬ (w = 6 ∨ w = 7 ∨ w = 8 ∨ w = 9 ∨ w = 10) by omega), if_neg (show ¬ (w = 11) by omega), if_neg (show ¬ (10 ≤ m.1 14) by omega), if_pos (show NUM (m.2.1 2) (m.1 3) 0 (m.1 13 - 1) (EP (m.2.1 2) (m.1 3) p) = -1 by omega)]
      exact ⟨_, _, rfl, hm13, hf16, Or.inr ⟨rfl, hK, by rw [hLQ]; exact q3⟩⟩
    · have hK : LK (m.2.1 2) (m.1 3) p (m.1 13) (m.1 14) (m.1 16) = 0 := by unfold LK; rw [← hw, if_neg (show ¬ (w = -1) by omega), if_neg (show ¬ (w = 6) by omega), if_neg (show ¬ (w = 7 ∨ w = 10) by omega), if_neg (show ¬ (w = 8) by omega), if_neg (show ¬ (w = 9) by omega), if_neg (show ¬ (w = 11) by omega), if_pos (show 10 ≤ m.1 14 ∨ NUM (m.2.1 2) (m.1 3) 0 (m.1 13 - 1) (EP (m.2.1 2) (m.1 3) p) = -1 ∨ NUM (m.2.1 2) (m.1 3) 0 (m.1 13 - 1) (EP (m.2.1 2) (m.1 3) (EP (m.2.1 2) (m.1 3) p)) = -1 ∨ NUM (m.2.1 2) (m.1 3) 0 (m.1 13 - 1) (EP (m.2.1 2) (m.1 3) (EP (m.2.1 2) (m.1 3) p)) = NUM (m.2.1 2) (m.1 3) 0 (m.1 13 - 1) (EP (m.2.1 2) (m.1 3) p) ∨ NUM (m.2.1 2) (m.1 3) 0 1 (EP (m.2.1 2) (m.1 3) (EP (m.2.1 2) (m.1 3) (EP (m.2.1 2) (m.1 3) p))) = -1 by omega)]
      have hLQ : LQ (m.2.1 2) (m.1 3) p (m.1 13) (m.1 14) = SK (m.2.1 2) (m.1 3) (EP (m.2.1 2) (m.1 3) (EP (m.2.1 2) (m.1 3) p)) := by unfold LQ; rw [← hw, if_neg (show ¬ (w = -1) by omega), if_neg (show ¬ (w = 6 ∨ w = 7 ∨ w = 8 ∨ w = 9 ∨ w = 10) by omega), if_neg (show ¬ (w = 11) by omega), if_neg (show ¬ (10 ≤ m.1 14) by omega), if_neg (show ¬ (NUM (m.2.1 2) (m.1 3) 0 (m.1 13 - 1) (EP (m.2.1 2) (m.1 3) p) = -1) by omega), if_pos (show NUM (m.2.1 2) (m.1 3) 0 (m.1 13 - 1) (EP (m.2.1 2) (m.1 3) (EP (m.2.1 2) (m.1 3) p)) = -1 ∨ NUM (m.2.1 2) (m.1 3) 0 (m.1 13 - 1) (EP (m.2.1 2) (m.1 3) (EP (m.2.1 2) (m.1 3) p)) = NUM (m.2.1 2) (m.1 3) 0 (m.1 13 - 1) (EP (m.2.1 2) (m.1 3) p) by omega)]
      exact ⟨_, _, rfl, hm13, hf16, Or.inr ⟨rfl, hK, by rw [hLQ]; exact q4⟩⟩
    · have hK : LK (m.2.1 2) (m.1 3) p (m.1 13) (m.1 14) (m.1 16) = 0 := by unfold LK; rw [← hw, if_neg (show ¬ (w = -1) by omega), if_neg (show ¬ (w = 6) by omega), if_neg (show ¬ (w = 7 ∨ w = 10) by omega), if_neg (show ¬ (w = 8) by omega), if_neg (show ¬ (w = 9) by omega), if_neg (show ¬ (w = 11) by omega), if_pos (show 10 ≤ m.1 14 ∨ NUM (m.2.1 2) (m.1 3) 0 (m.1 13 - 1) (EP (m.2.1 2) (m.1 3) p) = -1 ∨ NUM (m.2.1 2) (m.1 3) 0 (m.1 13 - 1) (EP (m.2.1 2) (m.1 3) (EP (m.2.1 2) (m.1 3) p)) = -1 ∨ NUM (m.2.1 2) (m.1 3) 0 (m.1 13 - 1) (EP (m.2.1 2) (m.1 3) (EP (m.2.1 2) (m.1 3) p)) = NUM (m.2.1 2) (m.1 3) 0 (m.1 13 - 1) (EP (m.2.1 2) (m.1 3) p) ∨ NUM (m.2.1 2) (m.1 3) 0 1 (EP (m.2.1 2) (m.1 3) (EP (m.2.1 2) (m.1 3) (EP (m.2.1 2) (m.1 3) p))) = -1 by omega)]
      have hLQ : LQ (m.2.1 2) (m.1 3) p (m.1 13) (m.1 14) = SK (m.2.1 2) (m.1 3) (EP (m.2.1 2) (m.1 3) (EP (m.2.1 2) (m.1 3) (EP (m.2.1 2) (m.1 3) p))) := by unfold LQ; rw [← hw, if_neg (show ¬ (w = -1) by omega), if_neg (show ¬ (w = 6 ∨ w = 7 ∨ w = 8 ∨ w = 9 ∨ w = 10) by omega), if_neg (show ¬ (w = 11) by omega), if_neg (show ¬ (10 ≤ m.1 14) by omega), if_neg (show ¬ (NUM (m.2.1 2) (m.1 3) 0 (m.1 13 - 1) (EP (m.2.1 2) (m.1 3) p) = -1) by omega), if_neg (show ¬ (NUM (m.2.1 2) (m.1 3) 0 (m.1 13 - 1) (EP (m.2.1 2) (m.1 3) (EP (m.2.1 2) (m.1 3) p)) = -1 ∨ NUM (m.2.1 2) (m.1 3) 0 (m.1 13 - 1) (EP (m.2.1 2) (m.1 3) (EP (m.2.1 2) (m.1 3) p)) = NUM (m.2.1 2) (m.1 3) 0 (m.1 13 - 1) (EP (m.2.1 2) (m.1 3) p)) by omega)]
      exact ⟨_, _, rfl, hm13, hf16, Or.inr ⟨rfl, hK, by rw [hLQ]; exact q5⟩⟩
  rcases kk5 with kk5 | kk5 | kk5 | kk5 | kk5 | kk5 | kk5 | kk5 | kk5 | kk5 | kk5 | kk5 | kk5
  · refine g_tsw_in (tg := 68) (o9 := 67) (by omega) (by omega) rfl (by omega) (by omega) (by rw [kk5]; rfl) (by decide) ?_
    refine g_iconst rfl ?_
    refine g_zret rfl rfl (by omega) ?_
    have hK : LK (m.2.1 2) (m.1 3) p (m.1 13) (m.1 14) (m.1 16) = 0 := by unfold LK; rw [← hw, if_pos (show w = -1 by omega)]
    have hLQ : LQ (m.2.1 2) (m.1 3) p (m.1 13) (m.1 14) = SK (m.2.1 2) (m.1 3) p := by unfold LQ; rw [← hw, if_pos (show w = -1 by omega)]
    exact ⟨_, _, rfl, hm, hf0, Or.inr ⟨rfl, hK, by rw [hLQ]; exact hs⟩⟩
  · refine g_tsw_in (tg := 170) (o9 := 169) (by omega) (by omega) rfl (by omega) (by omega) (by rw [kk5]; rfl) (by decide) ?_
    exact J6 (by omega)
  · refine g_tsw_in (tg := 170) (o9 := 169) (by omega) (by omega) rfl (by omega) (by omega) (by rw [kk5]; rfl) (by decide) ?_
    exact J6 (by omega)
  · refine g_tsw_in (tg := 170) (o9 := 169) (by omega) (by omega) rfl (by omega) (by omega) (by rw [kk5]; rfl) (by decide) ?_
    exact J6 (by omega)
  · refine g_tsw_in (tg := 170) (o9 := 169) (by omega) (by omega) rfl (by omega) (by omega) (by rw [kk5]; rfl) (by decide) ?_
    exact J6 (by omega)
  · refine g_tsw_in (tg := 170) (o9 := 169) (by omega) (by omega) rfl (by omega) (by omega) (by rw [kk5]; rfl) (by decide) ?_
    exact J6 (by omega)
  · refine g_tsw_in (tg := 170) (o9 := 169) (by omega) (by omega) rfl (by omega) (by omega) (by rw [kk5]; rfl) (by decide) ?_
    exact J6 (by omega)
  · refine g_tsw_in (tg := 70) (o9 := 69) (by omega) (by omega) rfl (by omega) (by omega) (by rw [kk5]; rfl) (by decide) ?_
    refine g_aload_n (n := 0) rfl rfl ?_
    refine g_aload_n (n := 1) rfl rfl ?_
    have h24 : 0 ≤ m.1 6 ∧ m.1 6 ≤ 200 := hm.1 6
    refine c_vI (i := 1) (ps := [vR 9]) (r := []) (as := [vR 1, vR 9]) (cs' := 0) (sl' := 0) rfl rfl rfl rfl rfl rfl (kl_1 _) (c_readGaol (d := d - 1) (q := q - (3 + 19)) (by omega) (by omega) hm  (by omega)) (by omega) (show 3 + 19 ≤ q by omega) (Nat.le_of_ble_eq_true rfl) (Nat.le_of_ble_eq_true rfl) rfl rfl rfl ?_
    rintro z25 m26 ⟨hm28, hc29, p30, p31, p32⟩
    have hf33 : fr [5, 6, 13, 14, 15, 16, 17, 18] [10, 11, 12, 13, 14] m m26 := fr_tr hf0 (fr_le hc29 rfl rfl)
    have h34 : m26.1 3 = m.1 3 := hc29.1 3 rfl
    have h35 : 0 ≤ m26.1 3 ∧ m26.1 3 ≤ 200 := hm28.1 3
    refine g_zret rfl rfl (by omega) ?_
    have h0 := p30
    rw [hp] at h0
    have e1 : m26.1 5 = SK (m.2.1 2) (m.1 3) (EP (m.2.1 2) (m.1 3) p) := by rw [p31, hp]
    have e2 : m26.1 6 = EP (m.2.1 2) (m.1 3) (EP (m.2.1 2) (m.1 3) p) := by rw [p32, hp]
    rcases h0 with ⟨rfl, q1, q2, q3, q4, q5⟩ | ⟨rfl, q1⟩
    · have hK : LK (m.2.1 2) (m.1 3) p (m.1 13) (m.1 14) (m.1 16) = 1 := by unfold LK; rw [← hw, if_neg (show ¬ (w = -1) by omega), if_pos (show w = 6 by omega), if_neg (show ¬ (NUM (m.2.1 2) (m.1 3) 2 6 (EP (m.2.1 2) (m.1 3) p) = -1) by omega)]
      have hLE : LE (m.2.1 2) (m.1 3) p = EP (m.2.1 2) (m.1 3) (EP (m.2.1 2) (m.1 3) p) := by unfold LE; rw [← hw, if_pos (show w = 6 ∨ w = 7 ∨ w = 8 ∨ w = 9 ∨ w = 10 by omega)]
      have hLR : LR (m.2.1 2) (m.1 3) p (m.1 13) = NUM (m.2.1 2) (m.1 3) 2 6 (EP (m.2.1 2) (m.1 3) p) := by unfold LR; rw [← hw, if_pos (show w = 6 by omega)]
      have hLD : LD (m.2.1 2) (m.1 3) p (m.1 14) = 0 := by unfold LD; rw [← hw, if_pos (show w = 6 by omega)]
      have hLH : LH (m.2.1 2) (m.1 3) p (m.1 13) (m.1 16) = 0 := by unfold LH; rw [← hw, if_pos (show w = 6 by omega)]
      exact ⟨_, _, rfl, hm28, hf33, Or.inl ⟨rfl, hK, by rw [hLE]; exact e2, by rw [hLR]; exact q2, by rw [hLD]; exact q3, by rw [hLH]; exact q4, q5⟩⟩
    · have hK : LK (m.2.1 2) (m.1 3) p (m.1 13) (m.1 14) (m.1 16) = 0 := by unfold LK; rw [← hw, if_neg (show ¬ (w = -1) by omega), if_pos (show w = 6 by omega), if_pos (show NUM (m.2.1 2) (m.1 3) 2 6 (EP (m.2.1 2) (m.1 3) p) = -1 by omega)]
      have hLQ : LQ (m.2.1 2) (m.1 3) p (m.1 13) (m.1 14) = SK (m.2.1 2) (m.1 3) (EP (m.2.1 2) (m.1 3) p) := by unfold LQ; rw [← hw, if_neg (show ¬ (w = -1) by omega), if_pos (show w = 6 ∨ w = 7 ∨ w = 8 ∨ w = 9 ∨ w = 10 by omega)]
      exact ⟨_, _, rfl, hm28, hf33, Or.inr ⟨rfl, hK, by rw [hLQ]; exact e1⟩⟩
  · refine g_tsw_in (tg := 76) (o9 := 75) (by omega) (by omega) rfl (by omega) (by omega) (by rw [kk5]; rfl) (by decide) ?_
    refine g_aload_n (n := 1) rfl rfl ?_
    refine g_aload_n (n := 0) rfl rfl ?_
    refine g_iconst rfl ?_
    refine g_aload_n (n := 1) rfl rfl ?_
    refine g_getf (v := vI (m.1 13)) rfl (kl_9 _) rfl ?_
    refine g_iconst rfl ?_
    refine g_isub rfl ?_
    have h36 : 0 ≤ m.1 6 ∧ m.1 6 ≤ 200 := hm.1 6
    refine c_vI (i := 1) (ps := [vI (m.1 13 - 1), vI 0]) (r := [vR 9]) (as := [vR 1, vI 0, vI (m.1 13 - 1)]) (cs' := 0) (sl' := 0) rfl rfl rfl rfl rfl rfl (kl_1 _) (c_nextNumber (d := d - 1) (q := q - (5 + 19)) (by omega) (by omega) hm (a := 0) (b := (m.1 13 - 1)) (show 0 ≤ 0 ∧ 0 ≤ 6 by omega) (show 0 ≤ (m.1 13 - 1) ∧ (m.1 13 - 1) ≤ 6 by omega) (by omega)) (by omega) (show 5 + 19 ≤ q by omega) (Nat.le_of_ble_eq_true rfl) (Nat.le_of_ble_eq_true rfl) rfl rfl rfl ?_
    rintro z37 m38 ⟨hm40, hc41, p42, p43, p44, p45, p46, p47⟩
    have hf48 : fr [5, 6, 13, 14, 15, 16, 17, 18] [10, 11, 12, 13, 14] m m38 := fr_tr hf0 (fr_le hc41 rfl rfl)
    have h49 : m38.1 3 = m.1 3 := hc41.1 3 rfl
    have h50 : 0 ≤ m38.1 3 ∧ m38.1 3 ≤ 200 := hm40.1 3
    have h51 : m38.1 13 = m.1 13 := hc41.1 13 rfl
    have h52 : 2 ≤ m38.1 13 ∧ m38.1 13 ≤ 6 := hm40.1 13
    have h53 : m38.1 14 = m.1 14 := hc41.1 14 rfl
    have h54 : 0 ≤ m38.1 14 ∧ m38.1 14 ≤ 10 := hm40.1 14
    have h55 : m38.1 16 = m.1 16 := hc41.1 16 rfl
    have h56 : 0 ≤ m38.1 16 ∧ m38.1 16 ≤ 63 := hm40.1 16
    have t57 : kG m38 := kG_fr hc41 rfl rfl h_kG
    refine g_putF (m' := (kF m38 15 z37)) rfl (kl_9 _) rfl rfl rfl rfl (kF_15 _ _) ?_
    have hm58 : kI (kF m38 15 z37) := kI_F hm40 15 (show ((-1) : Int) ≤ z37 by omega) (show z37 ≤ (5 : Int) by omega)
    have hf59 : fr [5, 6, 13, 14, 15, 16, 17, 18] [10, 11, 12, 13, 14] m (kF m38 15 z37) := fr_F hf48 15 _ rfl
    refine g_aload_n (n := 1) rfl rfl ?_
    refine g_getf (v := vI z37) rfl (kl_9 _) rfl ?_
    refine g_iconst rfl ?_
    refine g_icmp_eq (by omega) (by omega) (by decide) (by decide) rfl ?_ ?_
    · intro kk60
      refine g_iconst rfl ?_
      refine g_zret rfl rfl (by omega) ?_
      have e0 : z37 = NUM (m.2.1 2) (m.1 3) 0 (m.1 13 - 1) (EP (m.2.1 2) (m.1 3) p) := by rw [p42, hp]
      have e1 : m38.1 5 = SK (m.2.1 2) (m.1 3) (EP (m.2.1 2) (m.1 3) p) := by rw [p43, hp]
      have e2 : m38.1 6 = EP (m.2.1 2) (m.1 3) (EP (m.2.1 2) (m.1 3) p) := by rw [p44, hp]
      have hK : LK (m.2.1 2) (m.1 3) p (m.1 13) (m.1 14) (m.1 16) = 0 := by unfold LK; rw [← hw, if_neg (show ¬ (w = -1) by omega), if_neg (show ¬ (w = 6) by omega), if_pos (show w = 7 ∨ w = 10 by omega), if_pos (show NUM (m.2.1 2) (m.1 3) 0 (m.1 13 - 1) (EP (m.2.1 2) (m.1 3) p) = -1 by omega)]
      have hLQ : LQ (m.2.1 2) (m.1 3) p (m.1 13) (m.1 14) = SK (m.2.1 2) (m.1 3) (EP (m.2.1 2) (m.1 3) p) := by unfold LQ; rw [← hw, if_neg (show ¬ (w = -1) by omega), if_pos (show w = 6 ∨ w = 7 ∨ w = 8 ∨ w = 9 ∨ w = 10 by omega)]
      exact ⟨_, _, rfl, hm58, hf59, Or.inr ⟨rfl, hK, by rw [hLQ]; exact e1⟩⟩
    · intro kk61
      refine g_iconst rfl ?_
      refine g_goto rfl ?_
      refine g_zret rfl rfl (by omega) ?_
      have e0 : z37 = NUM (m.2.1 2) (m.1 3) 0 (m.1 13 - 1) (EP (m.2.1 2) (m.1 3) p) := by rw [p42, hp]
      have e1 : m38.1 5 = SK (m.2.1 2) (m.1 3) (EP (m.2.1 2) (m.1 3) p) := by rw [p43, hp]
      have e2 : m38.1 6 = EP (m.2.1 2) (m.1 3) (EP (m.2.1 2) (m.1 3) p) := by rw [p44, hp]
      have hg := kG_fr hc41 rfl rfl h_kG
      have hK : LK (m.2.1 2) (m.1 3) p (m.1 13) (m.1 14) (m.1 16) = 1 := by unfold LK; rw [← hw, if_neg (show ¬ (w = -1) by omega), if_neg (show ¬ (w = 6) by omega), if_pos (show w = 7 ∨ w = 10 by omega), if_neg (show ¬ (NUM (m.2.1 2) (m.1 3) 0 (m.1 13 - 1) (EP (m.2.1 2) (m.1 3) p) = -1) by omega)]
      have hLE : LE (m.2.1 2) (m.1 3) p = EP (m.2.1 2) (m.1 3) (EP (m.2.1 2) (m.1 3) p) := by unfold LE; rw [← hw, if_pos (show w = 6 ∨ w = 7 ∨ w = 8 ∨ w = 9 ∨ w = 10 by omega)]
      have hLR : LR (m.2.1 2) (m.1 3) p (m.1 13) = m.1 13 := by unfold LR; rw [← hw, if_neg (show ¬ (w = 6) by omega)]
      have hLD : LD (m.2.1 2) (m.1 3) p (m.1 14) = m.1 14 := by unfold LD; rw [← hw, if_neg (show ¬ (w = 6) by omega), if_neg (show ¬ (w ≤ 5) by omega)]
      have hLH : LH (m.2.1 2) (m.1 3) p (m.1 13) (m.1 16) = m.1 16 := by unfold LH; rw [← hw, if_neg (show ¬ (w = 6) by omega), if_neg (show ¬ (w = 8) by omega)]
      exact ⟨_, _, rfl, hm58, hf59, Or.inl ⟨rfl, hK, by rw [hLE]; exact e2, by rw [hLR]; exact hc41.1 13 rfl, by rw [hLD]; exact hc41.1 14 rfl, by rw [hLH]; exact hc41.1 16 rfl, ⟨(show 0 ≤ z37 by omega), hg.2⟩⟩⟩
  · refine g_tsw_in (tg := 105) (o9 := 104) (by omega) (by omega) rfl (by omega) (by omega) (by rw [kk5]; rfl) (by decide) ?_
    refine g_aload_n (n := 0) rfl rfl ?_
    refine g_aload_n (n := 1) rfl rfl ?_
    have h62 : 0 ≤ m.1 6 ∧ m.1 6 ≤ 200 := hm.1 6
    refine c_vI (i := 1) (ps := [vR 9]) (r := []) (as := [vR 1, vR 9]) (cs' := 0) (sl' := 0) rfl rfl rfl rfl rfl rfl (kl_1 _) (c_readHungry (d := d - 1) (q := q - (3 + 19)) (by omega) (by omega) hm  (by omega)) (by omega) (show 3 + 19 ≤ q by omega) (Nat.le_of_ble_eq_true rfl) (Nat.le_of_ble_eq_true rfl) rfl rfl rfl ?_
    rintro z63 m64 ⟨hm66, hc67, p68, p69, p70⟩
    have hf71 : fr [5, 6, 13, 14, 15, 16, 17, 18] [10, 11, 12, 13, 14] m m64 := fr_tr hf0 (fr_le hc67 rfl rfl)
    have h72 : m64.1 3 = m.1 3 := hc67.1 3 rfl
    have h73 : 0 ≤ m64.1 3 ∧ m64.1 3 ≤ 200 := hm66.1 3
    have h74 : m64.1 13 = m.1 13 := hc67.1 13 rfl
    have h75 : 2 ≤ m64.1 13 ∧ m64.1 13 ≤ 6 := hm66.1 13
    have h76 : m64.1 14 = m.1 14 := hc67.1 14 rfl
    have h77 : 0 ≤ m64.1 14 ∧ m64.1 14 ≤ 10 := hm66.1 14
    have t78 : kG m64 := kG_fr hc67 rfl rfl h_kG
    refine g_zret rfl rfl (by omega) ?_
    have h0 := p68
    rw [hp] at h0
    have e1 : m64.1 5 = SK (m.2.1 2) (m.1 3) (EP (m.2.1 2) (m.1 3) p) := by rw [p69, hp]
    have e2 : m64.1 6 = EP (m.2.1 2) (m.1 3) (EP (m.2.1 2) (m.1 3) p) := by rw [p70, hp]
    rcases h0 with ⟨rfl, q1, q2, q3, q4⟩ | ⟨rfl, q1⟩
    · have hK : LK (m.2.1 2) (m.1 3) p (m.1 13) (m.1 14) (m.1 16) = 1 := by unfold LK; rw [← hw, if_neg (show ¬ (w = -1) by omega), if_neg (show ¬ (w = 6) by omega), if_neg (show ¬ (w = 7 ∨ w = 10) by omega), if_pos (show w = 8 by omega), if_neg (show ¬ (NUM (m.2.1 2) (m.1 3) 0 (m.1 13 - 1) (EP (m.2.1 2) (m.1 3) p) = -1 ∨ hb (m.1 16) (NUM (m.2.1 2) (m.1 3) 0 (m.1 13 - 1) (EP (m.2.1 2) (m.1 3) p)) = 1 ∨ 4 ≤ pcn (m.1 16)) by omega)]
      have hLE : LE (m.2.1 2) (m.1 3) p = EP (m.2.1 2) (m.1 3) (EP (m.2.1 2) (m.1 3) p) := by unfold LE; rw [← hw, if_pos (show w = 6 ∨ w = 7 ∨ w = 8 ∨ w = 9 ∨ w = 10 by omega)]
      have hLR : LR (m.2.1 2) (m.1 3) p (m.1 13) = m.1 13 := by unfold LR; rw [← hw, if_neg (show ¬ (w = 6) by omega)]
      have hLD : LD (m.2.1 2) (m.1 3) p (m.1 14) = m.1 14 := by unfold LD; rw [← hw, if_neg (show ¬ (w = 6) by omega), if_neg (show ¬ (w ≤ 5) by omega)]
      have hLH : LH (m.2.1 2) (m.1 3) p (m.1 13) (m.1 16) = stb (m.1 16) (NUM (m.2.1 2) (m.1 3) 0 (m.1 13 - 1) (EP (m.2.1 2) (m.1 3) p)) := by unfold LH; rw [← hw, if_neg (show ¬ (w = 6) by omega), if_pos (show w = 8 by omega)]
      exact ⟨_, _, rfl, hm66, hf71, Or.inl ⟨rfl, hK, by rw [hLE]; exact e2, by rw [hLR]; exact hc67.1 13 rfl, by rw [hLD]; exact hc67.1 14 rfl, by rw [hLH]; exact q4, kG_fr hc67 rfl rfl h_kG⟩⟩
    · have hK : LK (m.2.1 2) (m.1 3) p (m.1 13) (m.1 14) (m.1 16) = 0 := by unfold LK; rw [← hw, if_neg (show ¬ (w = -1) by omega), if_neg (show ¬ (w = 6) by omega), if_neg (show ¬ (w = 7 ∨ w = 10) by omega), if_pos (show w = 8 by omega), if_pos (show NUM (m.2.1 2) (m.1 3) 0 (m.1 13 - 1) (EP (m.2.1 2) (m.1 3) p) = -1 ∨ hb (m.1 16) (NUM (m.2.1 2) (m.1 3) 0 (m.1 13 - 1) (EP (m.2.1 2) (m.1 3) p)) = 1 ∨ 4 ≤ pcn (m.1 16) by omega)]
      have hLQ : LQ (m.2.1 2) (m.1 3) p (m.1 13) (m.1 14) = SK (m.2.1 2) (m.1 3) (EP (m.2.1 2) (m.1 3) p) := by unfold LQ; rw [← hw, if_neg (show ¬ (w = -1) by omega), if_pos (show w = 6 ∨ w = 7 ∨ w = 8 ∨ w = 9 ∨ w = 10 by omega)]
      exact ⟨_, _, rfl, hm66, hf71, Or.inr ⟨rfl, hK, by rw [hLQ]; exact e1⟩⟩
  · refine g_tsw_in (tg := 111) (o9 := 110) (by omega) (by omega) rfl (by omega) (by omega) (by rw [kk5]; rfl) (by decide) ?_
    refine g_aload_n (n := 1) rfl rfl ?_
    refine g_aload_n (n := 0) rfl rfl ?_
    refine g_iconst rfl ?_
    refine g_iconst rfl ?_
    have h79 : 0 ≤ m.1 6 ∧ m.1 6 ≤ 200 := hm.1 6
    refine c_vI (i := 1) (ps := [vI 3, vI 0]) (r := [vR 9]) (as := [vR 1, vI 0, vI 3]) (cs' := 0) (sl' := 0) rfl rfl rfl rfl rfl rfl (kl_1 _) (c_nextNumber (d := d - 1) (q := q - (5 + 19)) (by omega) (by omega) hm (a := 0) (b := 3) (show 0 ≤ 0 ∧ 0 ≤ 6 by omega) (show 0 ≤ 3 ∧ 3 ≤ 6 by omega) (by omega)) (by omega) (show 5 + 19 ≤ q by omega) (Nat.le_of_ble_eq_true rfl) (Nat.le_of_ble_eq_true rfl) rfl rfl rfl ?_
    rintro z80 m81 ⟨hm83, hc84, p85, p86, p87, p88, p89, p90⟩
    have hf91 : fr [5, 6, 13, 14, 15, 16, 17, 18] [10, 11, 12, 13, 14] m m81 := fr_tr hf0 (fr_le hc84 rfl rfl)
    have h92 : m81.1 3 = m.1 3 := hc84.1 3 rfl
    have h93 : 0 ≤ m81.1 3 ∧ m81.1 3 ≤ 200 := hm83.1 3
    have h94 : m81.1 13 = m.1 13 := hc84.1 13 rfl
    have h95 : 2 ≤ m81.1 13 ∧ m81.1 13 ≤ 6 := hm83.1 13
    have h96 : m81.1 14 = m.1 14 := hc84.1 14 rfl
    have h97 : 0 ≤ m81.1 14 ∧ m81.1 14 ≤ 10 := hm83.1 14
    have h98 : m81.1 16 = m.1 16 := hc84.1 16 rfl
    have h99 : 0 ≤ m81.1 16 ∧ m81.1 16 ≤ 63 := hm83.1 16
    have t100 : kG m81 := kG_fr hc84 rfl rfl h_kG
    refine g_putF (m' := (kF m81 17 z80)) rfl (kl_9 _) rfl rfl rfl rfl (kF_17 _ _) ?_
    have hm101 : kI (kF m81 17 z80) := kI_F hm83 17 (show ((-1) : Int) ≤ z80 by omega) (show z80 ≤ (3 : Int) by omega)
    have hf102 : fr [5, 6, 13, 14, 15, 16, 17, 18] [10, 11, 12, 13, 14] m (kF m81 17 z80) := fr_F hf91 17 _ rfl
    refine g_aload_n (n := 1) rfl rfl ?_
    refine g_getf (v := vI z80) rfl (kl_9 _) rfl ?_
    refine g_iconst rfl ?_
    refine g_icmp_eq (by omega) (by omega) (by decide) (by decide) rfl ?_ ?_
    · intro kk103
      refine g_iconst rfl ?_
      refine g_zret rfl rfl (by omega) ?_
      have e0 : z80 = NUM (m.2.1 2) (m.1 3) 0 3 (EP (m.2.1 2) (m.1 3) p) := by rw [p85, hp]
      have e1 : m81.1 5 = SK (m.2.1 2) (m.1 3) (EP (m.2.1 2) (m.1 3) p) := by rw [p86, hp]
      have e2 : m81.1 6 = EP (m.2.1 2) (m.1 3) (EP (m.2.1 2) (m.1 3) p) := by rw [p87, hp]
      have hK : LK (m.2.1 2) (m.1 3) p (m.1 13) (m.1 14) (m.1 16) = 0 := by unfold LK; rw [← hw, if_neg (show ¬ (w = -1) by omega), if_neg (show ¬ (w = 6) by omega), if_neg (show ¬ (w = 7 ∨ w = 10) by omega), if_neg (show ¬ (w = 8) by omega), if_pos (show w = 9 by omega), if_pos (show NUM (m.2.1 2) (m.1 3) 0 3 (EP (m.2.1 2) (m.1 3) p) = -1 by omega)]
      have hLQ : LQ (m.2.1 2) (m.1 3) p (m.1 13) (m.1 14) = SK (m.2.1 2) (m.1 3) (EP (m.2.1 2) (m.1 3) p) := by unfold LQ; rw [← hw, if_neg (show ¬ (w = -1) by omega), if_pos (show w = 6 ∨ w = 7 ∨ w = 8 ∨ w = 9 ∨ w = 10 by omega)]
      exact ⟨_, _, rfl, hm101, hf102, Or.inr ⟨rfl, hK, by rw [hLQ]; exact e1⟩⟩
    · intro kk104
      refine g_iconst rfl ?_
      refine g_goto rfl ?_
      refine g_zret rfl rfl (by omega) ?_
      have e0 : z80 = NUM (m.2.1 2) (m.1 3) 0 3 (EP (m.2.1 2) (m.1 3) p) := by rw [p85, hp]
      have e1 : m81.1 5 = SK (m.2.1 2) (m.1 3) (EP (m.2.1 2) (m.1 3) p) := by rw [p86, hp]
      have e2 : m81.1 6 = EP (m.2.1 2) (m.1 3) (EP (m.2.1 2) (m.1 3) p) := by rw [p87, hp]
      have hg := kG_fr hc84 rfl rfl h_kG
      have hK : LK (m.2.1 2) (m.1 3) p (m.1 13) (m.1 14) (m.1 16) = 1 := by unfold LK; rw [← hw, if_neg (show ¬ (w = -1) by omega), if_neg (show ¬ (w = 6) by omega), if_neg (show ¬ (w = 7 ∨ w = 10) by omega), if_neg (show ¬ (w = 8) by omega), if_pos (show w = 9 by omega), if_neg (show ¬ (NUM (m.2.1 2) (m.1 3) 0 3 (EP (m.2.1 2) (m.1 3) p) = -1) by omega)]
      have hLE : LE (m.2.1 2) (m.1 3) p = EP (m.2.1 2) (m.1 3) (EP (m.2.1 2) (m.1 3) p) := by unfold LE; rw [← hw, if_pos (show w = 6 ∨ w = 7 ∨ w = 8 ∨ w = 9 ∨ w = 10 by omega)]
      have hLR : LR (m.2.1 2) (m.1 3) p (m.1 13) = m.1 13 := by unfold LR; rw [← hw, if_neg (show ¬ (w = 6) by omega)]
      have hLD : LD (m.2.1 2) (m.1 3) p (m.1 14) = m.1 14 := by unfold LD; rw [← hw, if_neg (show ¬ (w = 6) by omega), if_neg (show ¬ (w ≤ 5) by omega)]
      have hLH : LH (m.2.1 2) (m.1 3) p (m.1 13) (m.1 16) = m.1 16 := by unfold LH; rw [← hw, if_neg (show ¬ (w = 6) by omega), if_neg (show ¬ (w = 8) by omega)]
      exact ⟨_, _, rfl, hm101, hf102, Or.inl ⟨rfl, hK, by rw [hLE]; exact e2, by rw [hLR]; exact hc84.1 13 rfl, by rw [hLD]; exact hc84.1 14 rfl, by rw [hLH]; exact hc84.1 16 rfl, ⟨hg.1, (show 0 ≤ z80 by omega), hg.2.2⟩⟩⟩
  · refine g_tsw_in (tg := 135) (o9 := 134) (by omega) (by omega) rfl (by omega) (by omega) (by rw [kk5]; rfl) (by decide) ?_
    refine g_aload_n (n := 1) rfl rfl ?_
    refine g_aload_n (n := 0) rfl rfl ?_
    refine g_iconst rfl ?_
    refine g_aload_n (n := 1) rfl rfl ?_
    refine g_getf (v := vI (m.1 13)) rfl (kl_9 _) rfl ?_
    refine g_iconst rfl ?_
    refine g_isub rfl ?_
    have h105 : 0 ≤ m.1 6 ∧ m.1 6 ≤ 200 := hm.1 6
    refine c_vI (i := 1) (ps := [vI (m.1 13 - 1), vI 0]) (r := [vR 9]) (as := [vR 1, vI 0, vI (m.1 13 - 1)]) (cs' := 0) (sl' := 0) rfl rfl rfl rfl rfl rfl (kl_1 _) (c_nextNumber (d := d - 1) (q := q - (5 + 19)) (by omega) (by omega) hm (a := 0) (b := (m.1 13 - 1)) (show 0 ≤ 0 ∧ 0 ≤ 6 by omega) (show 0 ≤ (m.1 13 - 1) ∧ (m.1 13 - 1) ≤ 6 by omega) (by omega)) (by omega) (show 5 + 19 ≤ q by omega) (Nat.le_of_ble_eq_true rfl) (Nat.le_of_ble_eq_true rfl) rfl rfl rfl ?_
    rintro z106 m107 ⟨hm109, hc110, p111, p112, p113, p114, p115, p116⟩
    have hf117 : fr [5, 6, 13, 14, 15, 16, 17, 18] [10, 11, 12, 13, 14] m m107 := fr_tr hf0 (fr_le hc110 rfl rfl)
    have h118 : m107.1 3 = m.1 3 := hc110.1 3 rfl
    have h119 : 0 ≤ m107.1 3 ∧ m107.1 3 ≤ 200 := hm109.1 3
    have h120 : m107.1 13 = m.1 13 := hc110.1 13 rfl
    have h121 : 2 ≤ m107.1 13 ∧ m107.1 13 ≤ 6 := hm109.1 13
    have h122 : m107.1 14 = m.1 14 := hc110.1 14 rfl
    have h123 : 0 ≤ m107.1 14 ∧ m107.1 14 ≤ 10 := hm109.1 14
    have h124 : m107.1 16 = m.1 16 := hc110.1 16 rfl
    have h125 : 0 ≤ m107.1 16 ∧ m107.1 16 ≤ 63 := hm109.1 16
    have t126 : kG m107 := kG_fr hc110 rfl rfl h_kG
    refine g_putF (m' := (kF m107 18 z106)) rfl (kl_9 _) rfl rfl rfl rfl (kF_18 _ _) ?_
    have hm127 : kI (kF m107 18 z106) := kI_F hm109 18 (show ((-1) : Int) ≤ z106 by omega) (show z106 ≤ (5 : Int) by omega)
    have hf128 : fr [5, 6, 13, 14, 15, 16, 17, 18] [10, 11, 12, 13, 14] m (kF m107 18 z106) := fr_F hf117 18 _ rfl
    refine g_aload_n (n := 1) rfl rfl ?_
    refine g_getf (v := vI z106) rfl (kl_9 _) rfl ?_
    refine g_iconst rfl ?_
    refine g_icmp_eq (by omega) (by omega) (by decide) (by decide) rfl ?_ ?_
    · intro kk129
      refine g_iconst rfl ?_
      refine g_zret rfl rfl (by omega) ?_
      have e0 : z106 = NUM (m.2.1 2) (m.1 3) 0 (m.1 13 - 1) (EP (m.2.1 2) (m.1 3) p) := by rw [p111, hp]
      have e1 : m107.1 5 = SK (m.2.1 2) (m.1 3) (EP (m.2.1 2) (m.1 3) p) := by rw [p112, hp]
      have e2 : m107.1 6 = EP (m.2.1 2) (m.1 3) (EP (m.2.1 2) (m.1 3) p) := by rw [p113, hp]
      have hK : LK (m.2.1 2) (m.1 3) p (m.1 13) (m.1 14) (m.1 16) = 0 := by unfold LK; rw [← hw, if_neg (show ¬ (w = -1) by omega), if_neg (show ¬ (w = 6) by omega), if_pos (show w = 7 ∨ w = 10 by omega), if_pos (show NUM (m.2.1 2) (m.1 3) 0 (m.1 13 - 1) (EP (m.2.1 2) (m.1 3) p) = -1 by omega)]
      have hLQ : LQ (m.2.1 2) (m.1 3) p (m.1 13) (m.1 14) = SK (m.2.1 2) (m.1 3) (EP (m.2.1 2) (m.1 3) p) := by unfold LQ; rw [← hw, if_neg (show ¬ (w = -1) by omega), if_pos (show w = 6 ∨ w = 7 ∨ w = 8 ∨ w = 9 ∨ w = 10 by omega)]
      exact ⟨_, _, rfl, hm127, hf128, Or.inr ⟨rfl, hK, by rw [hLQ]; exact e1⟩⟩
    · intro kk130
      refine g_iconst rfl ?_
      refine g_goto rfl ?_
      refine g_zret rfl rfl (by omega) ?_
      have e0 : z106 = NUM (m.2.1 2) (m.1 3) 0 (m.1 13 - 1) (EP (m.2.1 2) (m.1 3) p) := by rw [p111, hp]
      have e1 : m107.1 5 = SK (m.2.1 2) (m.1 3) (EP (m.2.1 2) (m.1 3) p) := by rw [p112, hp]
      have e2 : m107.1 6 = EP (m.2.1 2) (m.1 3) (EP (m.2.1 2) (m.1 3) p) := by rw [p113, hp]
      have hg := kG_fr hc110 rfl rfl h_kG
      have hK : LK (m.2.1 2) (m.1 3) p (m.1 13) (m.1 14) (m.1 16) = 1 := by unfold LK; rw [← hw, if_neg (show ¬ (w = -1) by omega), if_neg (show ¬ (w = 6) by omega), if_pos (show w = 7 ∨ w = 10 by omega), if_neg (show ¬ (NUM (m.2.1 2) (m.1 3) 0 (m.1 13 - 1) (EP (m.2.1 2) (m.1 3) p) = -1) by omega)]
      have hLE : LE (m.2.1 2) (m.1 3) p = EP (m.2.1 2) (m.1 3) (EP (m.2.1 2) (m.1 3) p) := by unfold LE; rw [← hw, if_pos (show w = 6 ∨ w = 7 ∨ w = 8 ∨ w = 9 ∨ w = 10 by omega)]
      have hLR : LR (m.2.1 2) (m.1 3) p (m.1 13) = m.1 13 := by unfold LR; rw [← hw, if_neg (show ¬ (w = 6) by omega)]
      have hLD : LD (m.2.1 2) (m.1 3) p (m.1 14) = m.1 14 := by unfold LD; rw [← hw, if_neg (show ¬ (w = 6) by omega), if_neg (show ¬ (w ≤ 5) by omega)]
      have hLH : LH (m.2.1 2) (m.1 3) p (m.1 13) (m.1 16) = m.1 16 := by unfold LH; rw [← hw, if_neg (show ¬ (w = 6) by omega), if_neg (show ¬ (w = 8) by omega)]
      exact ⟨_, _, rfl, hm127, hf128, Or.inl ⟨rfl, hK, by rw [hLE]; exact e2, by rw [hLR]; exact hc110.1 13 rfl, by rw [hLD]; exact hc110.1 14 rfl, by rw [hLH]; exact hc110.1 16 rfl, ⟨hg.1, hg.2.1, (show 0 ≤ z106 by omega), hg.2.2.2⟩⟩⟩
  · refine g_tsw_in (tg := 164) (o9 := 163) (by omega) (by omega) rfl (by omega) (by omega) (by rw [kk5]; rfl) (by decide) ?_
    refine g_aload_n (n := 0) rfl rfl ?_
    refine g_aload_n (n := 1) rfl rfl ?_
    have h131 : 0 ≤ m.1 6 ∧ m.1 6 ≤ 200 := hm.1 6
    refine c_vI (i := 1) (ps := [vR 9]) (r := []) (as := [vR 1, vR 9]) (cs' := 0) (sl' := 0) rfl rfl rfl rfl rfl rfl (kl_1 _) (c_readGuard (d := d - 1) (q := q - (3 + 19)) (by omega) (by omega) hm  h_kG (by omega)) (by omega) (show 3 + 19 ≤ q by omega) (Nat.le_of_ble_eq_true rfl) (Nat.le_of_ble_eq_true rfl) rfl rfl rfl ?_
    rintro z132 m133 ⟨hm135, hc136, p137⟩
    have hf138 : fr [5, 6, 13, 14, 15, 16, 17, 18] [10, 11, 12, 13, 14] m m133 := fr_tr hf0 (fr_le hc136 rfl rfl)
    have h139 : m133.1 3 = m.1 3 := hc136.1 3 rfl
    have h140 : 0 ≤ m133.1 3 ∧ m133.1 3 ≤ 200 := hm135.1 3
    have h141 : m133.1 13 = m.1 13 := hc136.1 13 rfl
    have h142 : 2 ≤ m133.1 13 ∧ m133.1 13 ≤ 6 := hm135.1 13
    have h143 : m133.1 14 = m.1 14 := hc136.1 14 rfl
    have h144 : 0 ≤ m133.1 14 ∧ m133.1 14 ≤ 10 := hm135.1 14
    have h145 : m133.1 16 = m.1 16 := hc136.1 16 rfl
    have h146 : 0 ≤ m133.1 16 ∧ m133.1 16 ≤ 63 := hm135.1 16
    refine g_zret rfl rfl (by omega) ?_
    have h0 := p137
    rw [hp] at h0
    rcases h0 with ⟨rfl, q1, q2, q3, q4⟩ | ⟨rfl, ⟨q1, q2⟩ | ⟨q1, q2, q3⟩⟩
    · have hK : LK (m.2.1 2) (m.1 3) p (m.1 13) (m.1 14) (m.1 16) = 1 := by unfold LK; rw [← hw, if_neg (show ¬ (w = -1) by omega), if_neg (show ¬ (w = 6) by omega), if_neg (show ¬ (w = 7 ∨ w = 10) by omega), if_neg (show ¬ (w = 8) by omega), if_neg (show ¬ (w = 9) by omega), if_pos (show w = 11 by omega), if_neg (show ¬ (NUM (m.2.1 2) (m.1 3) 0 1 (EP (m.2.1 2) (m.1 3) p) = -1 ∨ NUM (m.2.1 2) (m.1 3) 0 (m.1 13 - 1) (EP (m.2.1 2) (m.1 3) (EP (m.2.1 2) (m.1 3) p)) = -1) by omega)]
      have hLE : LE (m.2.1 2) (m.1 3) p = EP (m.2.1 2) (m.1 3) (EP (m.2.1 2) (m.1 3) (EP (m.2.1 2) (m.1 3) p)) := by unfold LE; rw [← hw, if_neg (show ¬ (w = 6 ∨ w = 7 ∨ w = 8 ∨ w = 9 ∨ w = 10) by omega), if_pos (show w = 11 by omega)]
      have hLR : LR (m.2.1 2) (m.1 3) p (m.1 13) = m.1 13 := by unfold LR; rw [← hw, if_neg (show ¬ (w = 6) by omega)]
      have hLD : LD (m.2.1 2) (m.1 3) p (m.1 14) = m.1 14 := by unfold LD; rw [← hw, if_neg (show ¬ (w = 6) by omega), if_neg (show ¬ (w ≤ 5) by omega)]
      have hLH : LH (m.2.1 2) (m.1 3) p (m.1 13) (m.1 16) = m.1 16 := by unfold LH; rw [← hw, if_neg (show ¬ (w = 6) by omega), if_neg (show ¬ (w = 8) by omega)]
      exact ⟨_, _, rfl, hm135, hf138, Or.inl ⟨rfl, hK, by rw [hLE]; exact q3, by rw [hLR]; exact hc136.1 13 rfl, by rw [hLD]; exact hc136.1 14 rfl, by rw [hLH]; exact hc136.1 16 rfl, q4⟩⟩
    · have hK : LK (m.2.1 2) (m.1 3) p (m.1 13) (m.1 14) (m.1 16) = 0 := by unfold LK; rw [← hw, if_neg (show ¬ (w = -1) by omega), if_neg (show ¬ (w = 6) by omega), if_neg (show ¬ (w = 7 ∨ w = 10) by omega), if_neg (show ¬ (w = 8) by omega), if_neg (show ¬ (w = 9) by omega), if_pos (show w = 11 by omega), if_pos (show NUM (m.2.1 2) (m.1 3) 0 1 (EP (m.2.1 2) (m.1 3) p) = -1 ∨ NUM (m.2.1 2) (m.1 3) 0 (m.1 13 - 1) (EP (m.2.1 2) (m.1 3) (EP (m.2.1 2) (m.1 3) p)) = -1 by omega)]
      have hLQ : LQ (m.2.1 2) (m.1 3) p (m.1 13) (m.1 14) = SK (m.2.1 2) (m.1 3) (EP (m.2.1 2) (m.1 3) p) := by unfold LQ; rw [← hw, if_neg (show ¬ (w = -1) by omega), if_neg (show ¬ (w = 6 ∨ w = 7 ∨ w = 8 ∨ w = 9 ∨ w = 10) by omega), if_pos (show w = 11 by omega), if_pos (show NUM (m.2.1 2) (m.1 3) 0 1 (EP (m.2.1 2) (m.1 3) p) = -1 by omega)]
      exact ⟨_, _, rfl, hm135, hf138, Or.inr ⟨rfl, hK, by rw [hLQ]; exact q2⟩⟩
    · have hK : LK (m.2.1 2) (m.1 3) p (m.1 13) (m.1 14) (m.1 16) = 0 := by unfold LK; rw [← hw, if_neg (show ¬ (w = -1) by omega), if_neg (show ¬ (w = 6) by omega), if_neg (show ¬ (w = 7 ∨ w = 10) by omega), if_neg (show ¬ (w = 8) by omega), if_neg (show ¬ (w = 9) by omega), if_pos (show w = 11 by omega), if_pos (show NUM (m.2.1 2) (m.1 3) 0 1 (EP (m.2.1 2) (m.1 3) p) = -1 ∨ NUM (m.2.1 2) (m.1 3) 0 (m.1 13 - 1) (EP (m.2.1 2) (m.1 3) (EP (m.2.1 2) (m.1 3) p)) = -1 by omega)]
      have hLQ : LQ (m.2.1 2) (m.1 3) p (m.1 13) (m.1 14) = SK (m.2.1 2) (m.1 3) (EP (m.2.1 2) (m.1 3) (EP (m.2.1 2) (m.1 3) p)) := by unfold LQ; rw [← hw, if_neg (show ¬ (w = -1) by omega), if_neg (show ¬ (w = 6 ∨ w = 7 ∨ w = 8 ∨ w = 9 ∨ w = 10) by omega), if_pos (show w = 11 by omega), if_neg (show ¬ (NUM (m.2.1 2) (m.1 3) 0 1 (EP (m.2.1 2) (m.1 3) p) = -1) by omega)]
      exact ⟨_, _, rfl, hm135, hf138, Or.inr ⟨rfl, hK, by rw [hLQ]; exact q3⟩⟩
theorem c_readInto {V : cg_V} {d q : Nat} (hd : 6 ≤ d) (hq : 128 ≤ q) {m : kM} (hm : kI m) (h_kG : kG m) : cg_S V d q mX6_readInto [vR 1, vR 9] (kl m) (R_I (fun z m' => (kI m') ∧ (fr [4, 5, 6, 13, 14, 15, 16, 17, 18] [10, 11, 12, 13, 14] m m') ∧ (z = (RD (m.2.1 2) (m.1 3) 10 0 (m.1 13) (m.1 14) (m.1 16)).1) ∧ (z = -1 → (m'.1 13 = (RD (m.2.1 2) (m.1 3) 10 0 (m.1 13) (m.1 14) (m.1 16)).2.1 ∧ m'.1 14 = (RD (m.2.1 2) (m.1 3) 10 0 (m.1 13) (m.1 14) (m.1 16)).2.2.1 ∧ m'.1 16 = (RD (m.2.1 2) (m.1 3) 10 0 (m.1 13) (m.1 14) (m.1 16)).2.2.2.1 ∧ m'.1 4 = (RD (m.2.1 2) (m.1 3) 10 0 (m.1 13) (m.1 14) (m.1 16)).2.2.2.2 ∧ kG m')) ∧ (-1 ≤ z) ∧ (z ≤ 200))) := by
  have hf0 : fr [4, 5, 6, 13, 14, 15, 16, 17, 18] [10, 11, 12, 13, 14] m m := fr_rf m
  refine cg_of (List.mem_of_getElem? (show ae_MT[81]? = some mX6_readInto from rfl)) (Nat.le_of_ble_eq_true rfl) ?_
  show cg_G V mX6_readInto d q _ 0 [(0, vR 1), (1, vR 9)] [] (kl m) 0 0
  have h1 : 0 ≤ m.1 3 ∧ m.1 3 ≤ 200 := hm.1 3
  have h2 : 2 ≤ m.1 13 ∧ m.1 13 ≤ 6 := hm.1 13
  have h3 : 0 ≤ m.1 14 ∧ m.1 14 ≤ 10 := hm.1 14
  have h4 : 0 ≤ m.1 16 ∧ m.1 16 ≤ 63 := hm.1 16
  refine g_aload_n (n := 0) rfl rfl ?_
  refine g_iconst rfl ?_
  refine g_putF (m' := (kF m 6 0)) rfl (kl_1 _) rfl rfl rfl rfl (kF_6 _ _) ?_
  have hm5 : kI (kF m 6 0) := kI_F hm 6 (show (0 : Int) ≤ 0 by omega) (show 0 ≤ (200 : Int) by omega)
  have hf6 : fr [4, 5, 6, 13, 14, 15, 16, 17, 18] [10, 11, 12, 13, 14] m (kF m 6 0) := fr_F hf0 6 _ rfl
  refine g_iconst rfl ?_
  refine g_istore_n (n := 2) (lo' := [(0, vR 1), (1, vR 9)]) rfl rfl ?_
  have L7_1 : ∀ (n7_1 : Nat) (l_1 : Int) (mL1 : kM), (kI mL1) → (fr [4, 5, 6, 13, 14, 15, 16, 17, 18] [10, 11, 12, 13, 14] m mL1) → (1 ≤ l_1 ∧ l_1 ≤ 11) → ((l_1 ≤ 10 ∧ RD (m.2.1 2) (m.1 3) (Int.toNat (11 - l_1)) (mL1.1 6) (mL1.1 13) (mL1.1 14) (mL1.1 16) = (RD (m.2.1 2) (m.1 3) 10 0 (m.1 13) (m.1 14) (m.1 16))) ∨ (l_1 = 11 ∧ (RD (m.2.1 2) (m.1 3) 10 0 (m.1 13) (m.1 14) (m.1 16)) = (mL1.1 5, 0, 0, 0, 0))) → (mL1.1 6 ≤ m.1 3) → (kG mL1) → ((11 - l_1).toNat) = n7_1 → cg_G V mX6_readInto d q (R_I (fun z m' => (kI m') ∧ (fr [4, 5, 6, 13, 14, 15, 16, 17, 18] [10, 11, 12, 13, 14] m m') ∧ (z = (RD (m.2.1 2) (m.1 3) 10 0 (m.1 13) (m.1 14) (m.1 16)).1) ∧ (z = -1 → (m'.1 13 = (RD (m.2.1 2) (m.1 3) 10 0 (m.1 13) (m.1 14) (m.1 16)).2.1 ∧ m'.1 14 = (RD (m.2.1 2) (m.1 3) 10 0 (m.1 13) (m.1 14) (m.1 16)).2.2.1 ∧ m'.1 16 = (RD (m.2.1 2) (m.1 3) 10 0 (m.1 13) (m.1 14) (m.1 16)).2.2.2.1 ∧ m'.1 4 = (RD (m.2.1 2) (m.1 3) 10 0 (m.1 13) (m.1 14) (m.1 16)).2.2.2.2 ∧ kG m')) ∧ (-1 ≤ z) ∧ (z ≤ 200))) 7 [(2, vI l_1), (0, vR 1), (1, vR 9)] [] (kl mL1) 0 0 := by
    intro n7_1
    induction n7_1 using Nat.strongRecOn with
    | _ n7_1 ih7_1 =>
      intro l_1 mL1 hmL1 hfL1 i7 iR iL iG q8
      refine g_iload_n (n := 2) rfl rfl ?_
      refine g_bipush (by decide) rfl ?_
      refine g_icmp_gt (by omega) (by omega) (by decide) (by decide) rfl ?_ ?_
      · intro kk9
        refine g_aload_n (n := 0) rfl rfl ?_
        have h10 : 0 ≤ mL1.1 5 ∧ mL1.1 5 ≤ 200 := hmL1.1 5
        refine g_getf (v := vI (mL1.1 5)) rfl (kl_1 _) rfl ?_
        refine g_iret rfl rfl ?_
        have hz := (iR.resolve_left (fun h => by omega)).2
        exact ⟨_, _, rfl, hmL1, hfL1, (by rw [hz]), (fun h => by omega), by omega, by omega⟩
      · intro kk11
        refine g_aload_n (n := 0) rfl rfl ?_
        refine g_iload_n (n := 2) rfl rfl ?_
        refine g_putF (m' := (kF mL1 4 l_1)) rfl (kl_1 _) rfl rfl rfl rfl (kF_4 _ _) ?_
        have hm12 : kI (kF mL1 4 l_1) := kI_F hmL1 4 (show ((-2147483648) : Int) ≤ l_1 by omega) (show l_1 ≤ (2147483647 : Int) by omega)
        have hf13 : fr [4, 5, 6, 13, 14, 15, 16, 17, 18] [10, 11, 12, 13, 14] m (kF mL1 4 l_1) := fr_F hfL1 4 _ rfl
        refine g_aload_n (n := 0) rfl rfl ?_
        have h14 : 0 ≤ mL1.1 3 ∧ mL1.1 3 ≤ 200 := hmL1.1 3
        have h15 : mL1.1 3 = m.1 3 := hfL1.1 3 rfl
        have h16 : 0 ≤ mL1.1 6 ∧ mL1.1 6 ≤ 200 := hmL1.1 6
        have h17 : (kF mL1 4 l_1).1 3 = mL1.1 3 := rfl
        have h18 : (kF mL1 4 l_1).1 6 = mL1.1 6 := rfl
        refine c_vV (i := 1) (ps := []) (r := []) (as := [vR 1]) (cs' := 0) (sl' := 0) rfl rfl rfl rfl rfl rfl (kl_1 _) (c_nextToken (d := d - 1) (q := q - (1 + 19)) (by omega) (by omega) hm12  (by omega)) (by omega) (show 1 + 19 ≤ q by omega) (Nat.le_of_ble_eq_true rfl) (Nat.le_of_ble_eq_true rfl) rfl rfl rfl ?_
        rintro m20 ⟨hm22, hc23, p24, p25⟩
        have hf26 : fr [4, 5, 6, 13, 14, 15, 16, 17, 18] [10, 11, 12, 13, 14] m m20 := fr_tr hf13 (fr_le hc23 rfl rfl)
        have h27 : m20.1 3 = mL1.1 3 := hc23.1 3 rfl
        have h28 : 0 ≤ m20.1 3 ∧ m20.1 3 ≤ 200 := hm22.1 3
        have h29 : m20.1 4 = l_1 := hc23.1 4 rfl
        have h30 : (-2147483648) ≤ m20.1 4 ∧ m20.1 4 ≤ 2147483647 := hm22.1 4
        have t31 : kG m20 := kG_fr hc23 rfl rfl iG
        have aT : mL1.2.1 2 = m.2.1 2 := hfL1.2.1 2 rfl
        have aN : mL1.1 3 = m.1 3 := hfL1.1 3 rfl
        have bT : m20.2.1 2 = m.2.1 2 := (hc23.2.1 2 rfl).trans aT
        have bN : m20.1 3 = m.1 3 := (hc23.1 3 rfl).trans aN
        have bs : m20.1 5 = SK (m20.2.1 2) (m20.1 3) (mL1.1 6) := by rw [bT, bN, ← aT, ← aN]; exact p24
        have bp : m20.1 6 = EP (m20.2.1 2) (m20.1 3) (mL1.1 6) := by rw [bT, bN, ← aT, ← aN]; exact p25
        have hl9 : l_1 ≤ 10 := by omega
        have hI := iR.resolve_right (fun h => by omega)
        have ek : Int.toNat (11 - l_1) = Int.toNat (10 - l_1) + 1 := by omega
        refine g_aload_n (n := 0) rfl rfl ?_
        refine g_aload_n (n := 1) rfl rfl ?_
        refine g_aload_n (n := 0) rfl rfl ?_
        have h32 : 0 ≤ m20.1 5 ∧ m20.1 5 ≤ 200 := hm22.1 5
        have h33 : 0 ≤ m20.1 6 ∧ m20.1 6 ≤ 200 := hm22.1 6
        refine c_vI (i := 1) (ps := []) (r := [vR 9, vR 1]) (as := [vR 1]) (cs' := 0) (sl' := 0) rfl rfl rfl rfl rfl rfl (kl_1 _) (c_wordHere (d := d - 1) (q := q - (2 + 19)) (by omega) (by omega) hm22  ) (by omega) (show 2 + 19 ≤ q by omega) (Nat.le_of_ble_eq_true rfl) (Nat.le_of_ble_eq_true rfl) rfl rfl rfl ?_
        rintro z34 m35 ⟨rfl, p37, p38, p39⟩
        have bw : z34 = LW (m20.2.1 2) (m20.1 3) (mL1.1 6) := by rw [p37, bs, bp]; rfl
        have h40 : 2 ≤ m20.1 13 ∧ m20.1 13 ≤ 6 := hm22.1 13
        have h41 : m20.1 13 = mL1.1 13 := hc23.1 13 rfl
        have h42 : 0 ≤ m20.1 14 ∧ m20.1 14 ≤ 10 := hm22.1 14
        have h43 : m20.1 14 = mL1.1 14 := hc23.1 14 rfl
        have h44 : 0 ≤ m20.1 16 ∧ m20.1 16 ≤ 63 := hm22.1 16
        have h45 : m20.1 16 = mL1.1 16 := hc23.1 16 rfl
        refine c_vI (i := 1) (ps := [vI z34, vR 9]) (r := []) (as := [vR 1, vR 9, vI z34]) (cs' := 0) (sl' := 0) rfl rfl rfl rfl rfl rfl (kl_1 _) (c_readLine (d := d - 1) (q := q - (3 + 19)) (by omega) (by omega) hm22 (w := z34) (show (-1) ≤ z34 ∧ z34 ≤ 11 by omega) t31 (show mL1.1 6 ≤ m20.1 3 by omega) bw bs bp) (by omega) (show 3 + 19 ≤ q by omega) (Nat.le_of_ble_eq_true rfl) (Nat.le_of_ble_eq_true rfl) rfl rfl rfl ?_
        rintro z46 m47 ⟨hm49, hc50, p51⟩
        have hf52 : fr [4, 5, 6, 13, 14, 15, 16, 17, 18] [10, 11, 12, 13, 14] m m47 := fr_tr hf26 (fr_le hc50 rfl rfl)
        have h53 : m47.1 3 = m20.1 3 := hc50.1 3 rfl
        have h54 : 0 ≤ m47.1 3 ∧ m47.1 3 ≤ 200 := hm49.1 3
        have h55 : m47.1 4 = m20.1 4 := hc50.1 4 rfl
        have h56 : (-2147483648) ≤ m47.1 4 ∧ m47.1 4 ≤ 2147483647 := hm49.1 4
        have b13 : m20.1 13 = mL1.1 13 := hc23.1 13 rfl
        have b14 : m20.1 14 = mL1.1 14 := hc23.1 14 rfl
        have b16 : m20.1 16 = mL1.1 16 := hc23.1 16 rfl
        have h0 := p51
        rw [bT, bN, b13, b14, b16] at h0
        have hRD : RD (m.2.1 2) (m.1 3) (Int.toNat (11 - l_1)) (mL1.1 6) (mL1.1 13) (mL1.1 14) (mL1.1 16) = (RD (m.2.1 2) (m.1 3) 10 0 (m.1 13) (m.1 14) (m.1 16)) := hI.2
        rw [ek] at hRD
        refine g_if_ne (by omega) (by omega) rfl ?_ ?_
        · intro kk57
          obtain ⟨-, k1, k2, k3, k4, k5, k6⟩ := h0.resolve_right (by omega)
          have hAF : AF (RD (m.2.1 2) (m.1 3) (Int.toNat (10 - l_1))) (m.2.1 2) (m.1 3) (Int.toNat (10 - l_1)) (m47.1 6) (m47.1 13) (m47.1 14) (m47.1 16) = (RD (m.2.1 2) (m.1 3) 10 0 (m.1 13) (m.1 14) (m.1 16)) := by
            rw [k2, k3, k4, k5, ← hRD]
            exact (if_neg (show ¬ (LK (m.2.1 2) (m.1 3) (mL1.1 6) (mL1.1 13) (mL1.1 14) (mL1.1 16) = 0) by omega)).symm
          have cT : m47.2.1 2 = m.2.1 2 := (hc50.2.1 2 rfl).trans bT
          have cN : m47.1 3 = m.1 3 := (hc50.1 3 rfl).trans bN
          have hel := LE_rng (t := m.2.1 2) (show mL1.1 6 ≤ m.1 3 by omega)
          have he3 : m47.1 6 ≤ m47.1 3 := by omega
          refine g_aload_n (n := 0) rfl rfl ?_
          have h58 : 0 ≤ m47.1 6 ∧ m47.1 6 ≤ 200 := hm49.1 6
          refine c_vV (i := 1) (ps := []) (r := []) (as := [vR 1]) (cs' := 0) (sl' := 0) rfl rfl rfl rfl rfl rfl (kl_1 _) (c_nextToken (d := d - 1) (q := q - (1 + 19)) (by omega) (by omega) hm49  (by omega)) (by omega) (show 1 + 19 ≤ q by omega) (Nat.le_of_ble_eq_true rfl) (Nat.le_of_ble_eq_true rfl) rfl rfl rfl ?_
          rintro m60 ⟨hm62, hc63, p64, p65⟩
          have hf66 : fr [4, 5, 6, 13, 14, 15, 16, 17, 18] [10, 11, 12, 13, 14] m m60 := fr_tr hf52 (fr_le hc63 rfl rfl)
          have h67 : m60.1 3 = m47.1 3 := hc63.1 3 rfl
          have h68 : 0 ≤ m60.1 3 ∧ m60.1 3 ≤ 200 := hm62.1 3
          have h69 : m60.1 4 = m47.1 4 := hc63.1 4 rfl
          have h70 : (-2147483648) ≤ m60.1 4 ∧ m60.1 4 ≤ 2147483647 := hm62.1 4
          have t71 : kG m60 := kG_fr hc63 rfl rfl k6
          have ds : m60.1 5 = SK (m.2.1 2) (m.1 3) (m47.1 6) := by rw [p64, cT, cN]
          have dp : m60.1 6 = EP (m.2.1 2) (m.1 3) (m47.1 6) := by rw [p65, cT, cN]
          have hEp := EP_rng (t := m.2.1 2) (show m47.1 6 ≤ m.1 3 by omega)
          have eQ : m47.2.1 2 (m60.1 5) = m.2.1 2 (m60.1 5) := by rw [cT]
          unfold AF at hAF
          rw [← ds, ← dp] at hAF
          refine g_aload_n (n := 0) rfl rfl ?_
          have h72 : 0 ≤ m60.1 5 ∧ m60.1 5 ≤ 200 := hm62.1 5
          refine g_getf (v := vI (m60.1 5)) rfl (kl_1 _) rfl ?_
          refine g_aload_n (n := 0) rfl rfl ?_
          refine g_getf (v := vI (m60.1 3)) rfl (kl_1 _) rfl ?_
          refine g_icmp_ne (by omega) (by omega) (by omega) (by omega) rfl ?_ ?_
          · intro kk73
            refine g_aload_n (n := 0) rfl rfl ?_
            refine g_getf (v := vR 2) rfl (kl_1 _) rfl ?_
            refine g_aload_n (n := 0) rfl rfl ?_
            refine g_getf (v := vI (m60.1 5)) rfl (kl_1 _) rfl ?_
            have h74 : 0 ≤ m60.2.1 2 (m60.1 5) ∧ m60.2.1 2 (m60.1 5) ≤ 255 := hm62.2 2 (m60.1 5) (by omega) (show m60.1 5 < (200 : Int) by omega)
            have h75 : m60.2.1 2 (m60.1 5) = m47.2.1 2 (m60.1 5) := congrFun (hc63.2.1 2 rfl) _
            refine g_iald (f := m60.2.1 2) rfl (kl_2 _) (by decide) (by omega) (by omega) ?_
            refine g_bipush (by decide) rfl ?_
            refine g_icmp_eq (by omega) (by omega) (by decide) (by decide) rfl ?_ ?_
            · intro kk76
              have f13 : m60.1 13 = m47.1 13 := hc63.1 13 rfl
              have f14 : m60.1 14 = m47.1 14 := hc63.1 14 rfl
              have f16 : m60.1 16 = m47.1 16 := hc63.1 16 rfl
              have e59 : m.2.1 2 (m60.1 5) = 59 := by omega
              have hn : (l_1 + 1 ≤ 10 ∧ RD (m.2.1 2) (m.1 3) (Int.toNat (11 - (l_1 + 1))) (m60.1 6) (m60.1 13) (m60.1 14) (m60.1 16) = (RD (m.2.1 2) (m.1 3) 10 0 (m.1 13) (m.1 14) (m.1 16))) ∨ (l_1 + 1 = 11 ∧ (RD (m.2.1 2) (m.1 3) 10 0 (m.1 13) (m.1 14) (m.1 16)) = (m60.1 5, 0, 0, 0, 0)) := by
                rw [if_neg (show ¬ (m60.1 5 = m.1 3) by omega)] at hAF
                by_cases e : l_1 = 10
                · right; refine ⟨by omega, ?_⟩; rw [if_pos (Or.inr (by omega))] at hAF; exact hAF.symm
                · left; refine ⟨by omega, ?_⟩; rw [if_neg (fun h => h.elim (fun h => h e59) (fun h => by omega))] at hAF; rw [f13, f14, f16, show Int.toNat (11 - (l_1 + 1)) = Int.toNat (10 - l_1) by omega]; exact hAF
              refine g_iinc (n := 2) (lo' := [(0, vR 1), (1, vR 9)]) rfl rfl rfl ?_
              refine g_goto rfl ?_
              exact ih7_1 _ (by omega) (l_1 + 1) m60 hm62 hf66 (by omega) hn (by omega) t71 rfl
            · intro kk77
              refine g_aload_n (n := 0) rfl rfl ?_
              refine g_getf (v := vI (m60.1 5)) rfl (kl_1 _) rfl ?_
              refine g_iret rfl rfl ?_
              rw [if_neg (show ¬ (m60.1 5 = m.1 3) by omega), if_pos (Or.inl (by omega))] at hAF
              exact ⟨_, _, rfl, hm62, hf66, (by rw [← hAF]), (fun h => by omega), by omega, by omega⟩
          · intro kk78
            refine g_iconst rfl ?_
            refine g_iret rfl rfl ?_
            rw [if_pos (show m60.1 5 = m.1 3 by omega)] at hAF
            have e4 : m60.1 4 = l_1 := (hc63.1 4 rfl).trans ((hc50.1 4 rfl).trans (hc23.1 4 rfl))
            exact ⟨_, _, rfl, hm62, hf66, (by rw [← hAF]), (fun _ => ⟨by rw [← hAF]; exact hc63.1 13 rfl, by rw [← hAF]; exact hc63.1 14 rfl, by rw [← hAF]; exact hc63.1 16 rfl, by rw [← hAF]; show m60.1 4 = 10 - ((Int.toNat (10 - l_1) : Nat) : Int); omega, t71⟩), by omega, by omega⟩
        · intro kk79
          refine g_aload_n (n := 0) rfl rfl ?_
          have h80 : 0 ≤ m47.1 5 ∧ m47.1 5 ≤ 200 := hm49.1 5
          refine g_getf (v := vI (m47.1 5)) rfl (kl_1 _) rfl ?_
          refine g_iret rfl rfl ?_
          obtain ⟨-, k1, k2⟩ := h0.resolve_left (by omega)
          have hz : (RD (m.2.1 2) (m.1 3) 10 0 (m.1 13) (m.1 14) (m.1 16)) = (m47.1 5, 0, 0, 0, 0) := by rw [← hRD, k2]; exact if_pos k1
          exact ⟨_, _, rfl, hm49, hf52, (by rw [hz]), (fun h => by omega), by omega, by omega⟩
  have h81 : (kF m 6 0).1 6 = 0 := rfl
  exact L7_1 _ 1 (kF m 6 0) hm5 hf6 (by omega) (Or.inl ⟨by decide, rfl⟩) (show (0 : Int) ≤ m.1 3 by omega) h_kG rfl
