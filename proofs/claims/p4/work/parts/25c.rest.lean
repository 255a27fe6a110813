/-! ===== contracts: the model, the rest of a line ===== -/
set_option maxHeartbeats 8000000 in
theorem d_readsRest {V : cg_V} {d q : Nat} (hd : 4 ≤ d) (hq : 90 ≤ q) {m : kM} (hm : kI m) {w : Int} (h_w : 0 ≤ w ∧ w ≤ 11) {p : Int} (hpn : p ≤ m.1 23) (ht : tk m (EP (m.2.1 64) (m.1 23) p)) (hr9 : m.1 24 ≤ 9) (hR : 2 ≤ m.1 34) (hp4 : pcn (m.1 36) ≤ 4) (hD9 : 1 ≤ w ∧ w ≤ 6 → m.1 35 < 10) (hW : (w = 0 ∧ LW (m.2.1 64) (m.1 23) p = 6) ∨ (1 ≤ w ∧ w ≤ 6 ∧ LW (m.2.1 64) (m.1 23) p = w - 1) ∨ (7 ≤ w ∧ LW (m.2.1 64) (m.1 23) p = w)) : cg_S V d q mX10_readsRest [vR 61, vI w] (kl m) (R_I (fun z m' => (kI m') ∧ (fr [31, 32, 33, 36] [65] m m') ∧ ((z = 1 ∧ LK (m.2.1 64) (m.1 23) p (m.1 34) (m.1 35) (m.1 36) = 1 ∧ tk m' (LE (m.2.1 64) (m.1 23) p) ∧ m'.1 36 = (if w = 8 then stb (m.1 36) (m'.2.1 65 (4 * m.1 24 + 1)) else m.1 36) ∧ (w = 0 → m'.2.1 65 (4 * m.1 24 + 1) = NUM (m.2.1 64) (m.1 23) 2 6 (EP (m.2.1 64) (m.1 23) p)) ∧ (w = 8 → m'.2.1 65 (4 * m.1 24 + 1) = NUM (m.2.1 64) (m.1 23) 0 (m.1 34 - 1) (EP (m.2.1 64) (m.1 23) p)) ∧ rv w (m'.2.1 65 (4 * m.1 24 + 1)) (m'.2.1 65 (4 * m.1 24 + 2)) (m'.2.1 65 (4 * m.1 24 + 3)) (m.1 35) (m.1 36) ∧ (∀ j : Int, j < 4 * m.1 24 + 1 → m'.2.1 65 j = m.2.1 65 j) ∧ (1 ≤ w ∧ w ≤ 6 → m'.2.1 65 (4 * m.1 24 + 1) = NUM (m.2.1 64) (m.1 23) 0 (m.1 34 - 1) (EP (m.2.1 64) (m.1 23) p) ∧ m'.2.1 65 (4 * m.1 24 + 2) = NUM (m.2.1 64) (m.1 23) 0 (m.1 34 - 1) (EP (m.2.1 64) (m.1 23) (EP (m.2.1 64) (m.1 23) p)) ∧ m'.2.1 65 (4 * m.1 24 + 3) = NUM (m.2.1 64) (m.1 23) 0 1 (EP (m.2.1 64) (m.1 23) (EP (m.2.1 64) (m.1 23) (EP (m.2.1 64) (m.1 23) p)))) ∧ (w = 10 → m'.2.1 65 (4 * m.1 24 + 1) = NUM (m.2.1 64) (m.1 23) 0 (m.1 34 - 1) (EP (m.2.1 64) (m.1 23) p))) ∨ (z = 0 ∧ LK (m.2.1 64) (m.1 23) p (m.1 34) (m.1 35) (m.1 36) = 0 ∧ m'.1 32 = LQ (m.2.1 64) (m.1 23) p (m.1 34) (m.1 35))))) := by
  have hf0 : fr [31, 32, 33, 36] [65] m m := fr_rf m
  refine cg_of (List.mem_of_getElem? (show ae_MT[131]? = some mX10_readsRest from rfl)) (Nat.le_of_ble_eq_true rfl) ?_
  show cg_G V mX10_readsRest d q _ 0 [(0, vR 61), (1, vI w)] [] (kl m) 0 0
  have h1 : 0 ≤ m.1 23 ∧ m.1 23 ≤ 200 := hm.1 23
  have h2 : 0 ≤ m.1 24 ∧ m.1 24 ≤ 10 := hm.1 24
  have h3 : 0 ≤ m.1 34 ∧ m.1 34 ≤ 6 := hm.1 34
  have h4 : 0 ≤ m.1 35 ∧ m.1 35 ≤ 10 := hm.1 35
  have h5 : 0 ≤ m.1 36 ∧ m.1 36 ≤ 63 := hm.1 36
  have hw35 : 0 ≤ m.1 35 ∧ m.1 35 ≤ 10 := hm.1 35
  refine g_aload_n (n := 0) rfl rfl ?_
  refine g_getf (v := vI (m.1 34)) rfl (kl_61 _) rfl ?_
  refine g_iconst rfl ?_
  refine g_isub rfl ?_
  refine g_istore_n (n := 2) (lo' := [(0, vR 61), (1, vI w)]) rfl rfl ?_
  refine g_iload_n (n := 1) rfl rfl ?_
  have kk6 : w = 0 ∨ w = 1 ∨ w = 2 ∨ w = 3 ∨ w = 4 ∨ w = 5 ∨ w = 6 ∨ w = 7 ∨ w = 8 ∨ w = 9 ∨ w = 10 ∨ w = 11 := by omega
  have J7 : (1 ≤ w ∧ w ≤ 6) → cg_G V mX10_readsRest d q (R_I (fun z m' => (kI m') ∧ (fr [31, 32, 33, 36] [65] m m') ∧ ((z = 1 ∧ LK (m.2.1 64) (m.1 23) p (m.1 34) (m.1 35) (m.1 36) = 1 ∧ tk m' (LE (m.2.1 64) (m.1 23) p) ∧ m'.1 36 = (if w = 8 then stb (m.1 36) (m'.2.1 65 (4 * m.1 24 + 1)) else m.1 36) ∧ (w = 0 → m'.2.1 65 (4 * m.1 24 + 1) = NUM (m.2.1 64) (m.1 23) 2 6 (EP (m.2.1 64) (m.1 23) p)) ∧ (w = 8 → m'.2.1 65 (4 * m.1 24 + 1) = NUM (m.2.1 64) (m.1 23) 0 (m.1 34 - 1) (EP (m.2.1 64) (m.1 23) p)) ∧ rv w (m'.2.1 65 (4 * m.1 24 + 1)) (m'.2.1 65 (4 * m.1 24 + 2)) (m'.2.1 65 (4 * m.1 24 + 3)) (m.1 35) (m.1 36) ∧ (∀ j : Int, j < 4 * m.1 24 + 1 → m'.2.1 65 j = m.2.1 65 j) ∧ (1 ≤ w ∧ w ≤ 6 → m'.2.1 65 (4 * m.1 24 + 1) = NUM (m.2.1 64) (m.1 23) 0 (m.1 34 - 1) (EP (m.2.1 64) (m.1 23) p) ∧ m'.2.1 65 (4 * m.1 24 + 2) = NUM (m.2.1 64) (m.1 23) 0 (m.1 34 - 1) (EP (m.2.1 64) (m.1 23) (EP (m.2.1 64) (m.1 23) p)) ∧ m'.2.1 65 (4 * m.1 24 + 3) = NUM (m.2.1 64) (m.1 23) 0 1 (EP (m.2.1 64) (m.1 23) (EP (m.2.1 64) (m.1 23) (EP (m.2.1 64) (m.1 23) p)))) ∧ (w = 10 → m'.2.1 65 (4 * m.1 24 + 1) = NUM (m.2.1 64) (m.1 23) 0 (m.1 34 - 1) (EP (m.2.1 64) (m.1 23) p))) ∨ (z = 0 ∧ LK (m.2.1 64) (m.1 23) p (m.1 34) (m.1 35) (m.1 36) = 0 ∧ m'.1 32 = LQ (m.2.1 64) (m.1 23) p (m.1 34) (m.1 35))))) 133 [(2, vI (m.1 34 - 1)), (0, vR 61), (1, vI w)] [] (kl m) 0 0 := by
    intro kk8
    have hLW : LW (m.2.1 64) (m.1 23) p = w - 1 := by omega
    have hwr : 1 ≤ w ∧ w ≤ 6 := by omega
    clear hW
    clear kk8
    refine g_aload_n (n := 0) rfl rfl ?_
    refine g_iconst rfl ?_
    refine g_iconst rfl ?_
    refine g_iload_n (n := 2) rfl rfl ?_
    refine g_iconst rfl ?_
    refine c_vI (i := 61) (ps := [vI (-1), vI (m.1 34 - 1), vI 0, vI 0]) (r := []) (as := [vR 61, vI 0, vI 0, vI (m.1 34 - 1), vI (-1)]) (cs' := 0) (sl' := 0) rfl rfl rfl rfl rfl rfl (kl_61 _) (d_reads (d := d - 1) (q := q - (7 + 19)) (by omega) (by omega) hm (k := 0) (a := 0) (b := (m.1 34 - 1)) (u := (-1)) (show 0 ≤ 0 ∧ 0 ≤ 2 by omega) (show 0 ≤ 0 ∧ 0 ≤ 2 by omega) (show 0 ≤ (m.1 34 - 1) ∧ (m.1 34 - 1) ≤ 6 by omega) (show (-2147483648) ≤ (-1) ∧ (-1) ≤ 2147483647 by omega) ht hr9) (by omega) (show 7 + 19 ≤ q by omega) (Nat.le_of_ble_eq_true rfl) (Nat.le_of_ble_eq_true rfl) rfl rfl rfl ?_
    rintro z9 m10 ⟨hm12, hc13, p14⟩
    have hf15 : fr [31, 32, 33, 36] [65] m m10 := fr_tr hf0 (fr_le hc13 rfl rfl)
    have h16 : m10.1 23 = m.1 23 := hc13.1 23 rfl
    have h17 : 0 ≤ m10.1 23 ∧ m10.1 23 ≤ 200 := hm12.1 23
    have h18 : m10.1 24 = m.1 24 := hc13.1 24 rfl
    have h19 : 0 ≤ m10.1 24 ∧ m10.1 24 ≤ 10 := hm12.1 24
    have h20 : m10.1 34 = m.1 34 := hc13.1 34 rfl
    have h21 : 0 ≤ m10.1 34 ∧ m10.1 34 ≤ 6 := hm12.1 34
    have h22 : m10.1 35 = m.1 35 := hc13.1 35 rfl
    have h23 : 0 ≤ m10.1 35 ∧ m10.1 35 ≤ 10 := hm12.1 35
    have h24 : m10.1 36 = m.1 36 := hc13.1 36 rfl
    have h25 : 0 ≤ m10.1 36 ∧ m10.1 36 ≤ 63 := hm12.1 36
    refine g_if_eq (by omega) (by omega) rfl ?_ ?_
    · intro kk26
      refine g_iconst rfl ?_
      refine g_zret rfl rfl (by omega) ?_
      obtain ⟨-, k1, k2⟩ := p14.resolve_left (fun h => by omega)
      have hK : LK (m.2.1 64) (m.1 23) p (m.1 34) (m.1 35) (m.1 36) = 0 := by unfold LK; rw [hLW, if_neg (show ¬ ((w - 1) = -1) by omega), if_neg (show ¬ ((w - 1) = 6) by omega), if_neg (show ¬ ((w - 1) = 7 ∨ (w - 1) = 10) by omega), if_neg (show ¬ ((w - 1) = 8) by omega), if_neg (show ¬ ((w - 1) = 9) by omega), if_neg (show ¬ ((w - 1) = 11) by omega), if_pos (show 10 ≤ m.1 35 ∨ NUM (m.2.1 64) (m.1 23) 0 (m.1 34 - 1) (EP (m.2.1 64) (m.1 23) p) = -1 ∨ NUM (m.2.1 64) (m.1 23) 0 (m.1 34 - 1) (EP (m.2.1 64) (m.1 23) (EP (m.2.1 64) (m.1 23) p)) = -1 ∨ NUM (m.2.1 64) (m.1 23) 0 (m.1 34 - 1) (EP (m.2.1 64) (m.1 23) (EP (m.2.1 64) (m.1 23) p)) = NUM (m.2.1 64) (m.1 23) 0 (m.1 34 - 1) (EP (m.2.1 64) (m.1 23) p) ∨ NUM (m.2.1 64) (m.1 23) 0 1 (EP (m.2.1 64) (m.1 23) (EP (m.2.1 64) (m.1 23) (EP (m.2.1 64) (m.1 23) p))) = -1 by omega)]
      have hLQ : LQ (m.2.1 64) (m.1 23) p (m.1 34) (m.1 35) = SK (m.2.1 64) (m.1 23) (EP (m.2.1 64) (m.1 23) p) := by unfold LQ; rw [hLW, if_neg (show ¬ ((w - 1) = -1) by omega), if_neg (show ¬ ((w - 1) = 6 ∨ (w - 1) = 7 ∨ (w - 1) = 8 ∨ (w - 1) = 9 ∨ (w - 1) = 10) by omega), if_neg (show ¬ ((w - 1) = 11) by omega), if_neg (show ¬ (10 ≤ m.1 35) by omega), if_pos (show NUM (m.2.1 64) (m.1 23) 0 (m.1 34 - 1) (EP (m.2.1 64) (m.1 23) p) = -1 by omega)]
      exact ⟨_, _, rfl, hm12, hf15, Or.inr ⟨rfl, hK, by rw [hLQ]; exact (by have h9 := k2.2.1; rw [hc13.2.1 64 rfl, hc13.1 23 rfl] at h9; exact h9)⟩⟩
    · intro kk27
      obtain ⟨-, k1, k2, k3, k4⟩ := p14.resolve_right (fun h => by omega)
      have eTa : m10.2.1 64 = m.2.1 64 := hc13.2.1 64 rfl
      have eNa : m10.1 23 = m.1 23 := hc13.1 23 rfl
      have eRa : m10.1 34 = m.1 34 := hc13.1 34 rfl
      have e24a : m10.1 24 = m.1 24 := hc13.1 24 rfl
      have e36a : m10.1 36 = m.1 36 := hc13.1 36 rfl
      have hNr1 := NUM_rng (t := m.2.1 64) (n := m.1 23) (lo := 0) (hi := m.1 34 - 1) (p := EP (m.2.1 64) (m.1 23) p)
      have hra : m10.1 24 ≤ 9 := by omega
      refine g_aload_n (n := 0) rfl rfl ?_
      refine g_iconst rfl ?_
      refine g_iconst rfl ?_
      refine g_iload_n (n := 2) rfl rfl ?_
      refine g_aload_n (n := 0) rfl rfl ?_
      refine g_getf (v := vR 65) rfl (kl_61 _) rfl ?_
      refine g_iconst rfl ?_
      refine g_aload_n (n := 0) rfl rfl ?_
      refine g_getf (v := vI (m10.1 24)) rfl (kl_61 _) rfl ?_
      refine g_imul rfl ?_
      refine g_iconst rfl ?_
      refine g_iadd rfl ?_
      have h28 : (-2147483648) ≤ m10.2.1 65 ((4 * m10.1 24) + 1) ∧ m10.2.1 65 ((4 * m10.1 24) + 1) ≤ 2147483647 := hm12.2 65 ((4 * m10.1 24) + 1) (by omega) (show ((4 * m10.1 24) + 1) < (40 : Int) by omega)
      refine g_iald (f := m10.2.1 65) rfl (kl_65 _) (by decide) (by omega) (by omega) ?_
      have ru : m10.2.1 65 ((4 * m10.1 24) + 1) = NUM (m.2.1 64) (m.1 23) 0 (m.1 34 - 1) (EP (m.2.1 64) (m.1 23) p) := by rw [k4, show (4 * m10.1 24) + 1 = 4 * m.1 24 + 1 + 0 by omega, up_same]
      refine c_vI (i := 61) (ps := [vI (m10.2.1 65 ((4 * m10.1 24) + 1)), vI (m.1 34 - 1), vI 0, vI 1]) (r := []) (as := [vR 61, vI 1, vI 0, vI (m.1 34 - 1), vI (m10.2.1 65 ((4 * m10.1 24) + 1))]) (cs' := 0) (sl' := 0) rfl rfl rfl rfl rfl rfl (kl_61 _) (d_reads (d := d - 1) (q := q - (7 + 19)) (by omega) (by omega) hm12 (k := 1) (a := 0) (b := (m.1 34 - 1)) (u := m10.2.1 65 ((4 * m10.1 24) + 1)) (show 0 ≤ 1 ∧ 1 ≤ 2 by omega) (show 0 ≤ 0 ∧ 0 ≤ 2 by omega) (show 0 ≤ (m.1 34 - 1) ∧ (m.1 34 - 1) ≤ 6 by omega) (show (-2147483648) ≤ m10.2.1 65 ((4 * m10.1 24) + 1) ∧ m10.2.1 65 ((4 * m10.1 24) + 1) ≤ 2147483647 by omega) k3 hra) (by omega) (show 7 + 19 ≤ q by omega) (Nat.le_of_ble_eq_true rfl) (Nat.le_of_ble_eq_true rfl) rfl rfl rfl ?_
      rintro z29 m30 ⟨hm32, hc33, p34⟩
      have hf35 : fr [31, 32, 33, 36] [65] m m30 := fr_tr hf15 (fr_le hc33 rfl rfl)
      have h36 : m30.1 23 = m10.1 23 := hc33.1 23 rfl
      have h37 : 0 ≤ m30.1 23 ∧ m30.1 23 ≤ 200 := hm32.1 23
      have h38 : m30.1 24 = m10.1 24 := hc33.1 24 rfl
      have h39 : 0 ≤ m30.1 24 ∧ m30.1 24 ≤ 10 := hm32.1 24
      have h40 : m30.1 34 = m10.1 34 := hc33.1 34 rfl
      have h41 : 0 ≤ m30.1 34 ∧ m30.1 34 ≤ 6 := hm32.1 34
      have h42 : m30.1 35 = m10.1 35 := hc33.1 35 rfl
      have h43 : 0 ≤ m30.1 35 ∧ m30.1 35 ≤ 10 := hm32.1 35
      have h44 : m30.1 36 = m10.1 36 := hc33.1 36 rfl
      have h45 : 0 ≤ m30.1 36 ∧ m30.1 36 ≤ 63 := hm32.1 36
      refine g_if_eq (by omega) (by omega) rfl ?_ ?_
      · intro kk46
        refine g_iconst rfl ?_
        refine g_zret rfl rfl (by omega) ?_
        obtain ⟨-, j1, j2⟩ := p34.resolve_left (fun h => by omega)
        rw [eTa, eNa, ru] at j1
        have hK : LK (m.2.1 64) (m.1 23) p (m.1 34) (m.1 35) (m.1 36) = 0 := by unfold LK; rw [hLW, if_neg (show ¬ ((w - 1) = -1) by omega), if_neg (show ¬ ((w - 1) = 6) by omega), if_neg (show ¬ ((w - 1) = 7 ∨ (w - 1) = 10) by omega), if_neg (show ¬ ((w - 1) = 8) by omega), if_neg (show ¬ ((w - 1) = 9) by omega), if_neg (show ¬ ((w - 1) = 11) by omega), if_pos (show 10 ≤ m.1 35 ∨ NUM (m.2.1 64) (m.1 23) 0 (m.1 34 - 1) (EP (m.2.1 64) (m.1 23) p) = -1 ∨ NUM (m.2.1 64) (m.1 23) 0 (m.1 34 - 1) (EP (m.2.1 64) (m.1 23) (EP (m.2.1 64) (m.1 23) p)) = -1 ∨ NUM (m.2.1 64) (m.1 23) 0 (m.1 34 - 1) (EP (m.2.1 64) (m.1 23) (EP (m.2.1 64) (m.1 23) p)) = NUM (m.2.1 64) (m.1 23) 0 (m.1 34 - 1) (EP (m.2.1 64) (m.1 23) p) ∨ NUM (m.2.1 64) (m.1 23) 0 1 (EP (m.2.1 64) (m.1 23) (EP (m.2.1 64) (m.1 23) (EP (m.2.1 64) (m.1 23) p))) = -1 by omega)]
        have hLQ : LQ (m.2.1 64) (m.1 23) p (m.1 34) (m.1 35) = SK (m.2.1 64) (m.1 23) (EP (m.2.1 64) (m.1 23) (EP (m.2.1 64) (m.1 23) p)) := by unfold LQ; rw [hLW, if_neg (show ¬ ((w - 1) = -1) by omega), if_neg (show ¬ ((w - 1) = 6 ∨ (w - 1) = 7 ∨ (w - 1) = 8 ∨ (w - 1) = 9 ∨ (w - 1) = 10) by omega), if_neg (show ¬ ((w - 1) = 11) by omega), if_neg (show ¬ (10 ≤ m.1 35) by omega), if_neg (show ¬ (NUM (m.2.1 64) (m.1 23) 0 (m.1 34 - 1) (EP (m.2.1 64) (m.1 23) p) = -1) by omega), if_pos (show NUM (m.2.1 64) (m.1 23) 0 (m.1 34 - 1) (EP (m.2.1 64) (m.1 23) (EP (m.2.1 64) (m.1 23) p)) = -1 ∨ NUM (m.2.1 64) (m.1 23) 0 (m.1 34 - 1) (EP (m.2.1 64) (m.1 23) (EP (m.2.1 64) (m.1 23) p)) = NUM (m.2.1 64) (m.1 23) 0 (m.1 34 - 1) (EP (m.2.1 64) (m.1 23) p) by omega)]
        exact ⟨_, _, rfl, hm32, hf35, Or.inr ⟨rfl, hK, by rw [hLQ]; exact (by have h9 := j2.2.1; rw [hc33.2.1 64 rfl, hc33.1 23 rfl, eTa, eNa] at h9; exact h9)⟩⟩
      · intro kk47
        obtain ⟨-, j1, j2, j3, j4⟩ := p34.resolve_right (fun h => by omega)
        have eTb : m30.2.1 64 = m.2.1 64 := (hc33.2.1 64 rfl).trans eTa
        have eNb : m30.1 23 = m.1 23 := (hc33.1 23 rfl).trans eNa
        have eRb : m30.1 34 = m.1 34 := (hc33.1 34 rfl).trans eRa
        have e24b : m30.1 24 = m.1 24 := (hc33.1 24 rfl).trans e24a
        have e36b : m30.1 36 = m.1 36 := (hc33.1 36 rfl).trans e36a
        rw [eTa, eNa] at j1 j2 j3 j4
        rw [ru] at j2
        rw [e24a] at j4
        have hNr2 := NUM_rng (t := m.2.1 64) (n := m.1 23) (lo := 0) (hi := m.1 34 - 1) (p := EP (m.2.1 64) (m.1 23) (EP (m.2.1 64) (m.1 23) p))
        have hrb : m30.1 24 ≤ 9 := by omega
        refine g_aload_n (n := 0) rfl rfl ?_
        refine g_iconst rfl ?_
        refine g_iconst rfl ?_
        refine g_iconst rfl ?_
        refine g_iconst rfl ?_
        refine c_vI (i := 61) (ps := [vI (-1), vI 1, vI 0, vI 2]) (r := []) (as := [vR 61, vI 2, vI 0, vI 1, vI (-1)]) (cs' := 0) (sl' := 0) rfl rfl rfl rfl rfl rfl (kl_61 _) (d_reads (d := d - 1) (q := q - (7 + 19)) (by omega) (by omega) hm32 (k := 2) (a := 0) (b := 1) (u := (-1)) (show 0 ≤ 2 ∧ 2 ≤ 2 by omega) (show 0 ≤ 0 ∧ 0 ≤ 2 by omega) (show 0 ≤ 1 ∧ 1 ≤ 6 by omega) (show (-2147483648) ≤ (-1) ∧ (-1) ≤ 2147483647 by omega) j3 hrb) (by omega) (show 7 + 19 ≤ q by omega) (Nat.le_of_ble_eq_true rfl) (Nat.le_of_ble_eq_true rfl) rfl rfl rfl ?_
        rintro z48 m49 ⟨hm51, hc52, p53⟩
        have hf54 : fr [31, 32, 33, 36] [65] m m49 := fr_tr hf35 (fr_le hc52 rfl rfl)
        have h55 : m49.1 23 = m30.1 23 := hc52.1 23 rfl
        have h56 : 0 ≤ m49.1 23 ∧ m49.1 23 ≤ 200 := hm51.1 23
        have h57 : m49.1 24 = m30.1 24 := hc52.1 24 rfl
        have h58 : 0 ≤ m49.1 24 ∧ m49.1 24 ≤ 10 := hm51.1 24
        have h59 : m49.1 34 = m30.1 34 := hc52.1 34 rfl
        have h60 : 0 ≤ m49.1 34 ∧ m49.1 34 ≤ 6 := hm51.1 34
        have h61 : m49.1 35 = m30.1 35 := hc52.1 35 rfl
        have h62 : 0 ≤ m49.1 35 ∧ m49.1 35 ≤ 10 := hm51.1 35
        have h63 : m49.1 36 = m30.1 36 := hc52.1 36 rfl
        have h64 : 0 ≤ m49.1 36 ∧ m49.1 36 ≤ 63 := hm51.1 36
        refine g_if_eq (by omega) (by omega) rfl ?_ ?_
        · intro kk65
          refine g_iconst rfl ?_
          refine g_zret rfl rfl (by omega) ?_
          obtain ⟨-, i1, i2⟩ := p53.resolve_left (fun h => by omega)
          rw [eTb, eNb] at i1
          have hK : LK (m.2.1 64) (m.1 23) p (m.1 34) (m.1 35) (m.1 36) = 0 := by unfold LK; rw [hLW, if_neg (show ¬ ((w - 1) = -1) by omega), if_neg (show ¬ ((w - 1) = 6) by omega), if_neg (show ¬ ((w - 1) = 7 ∨ (w - 1) = 10) by omega), if_neg (show ¬ ((w - 1) = 8) by omega), if_neg (show ¬ ((w - 1) = 9) by omega), if_neg (show ¬ ((w - 1) = 11) by omega), if_pos (show 10 ≤ m.1 35 ∨ NUM (m.2.1 64) (m.1 23) 0 (m.1 34 - 1) (EP (m.2.1 64) (m.1 23) p) = -1 ∨ NUM (m.2.1 64) (m.1 23) 0 (m.1 34 - 1) (EP (m.2.1 64) (m.1 23) (EP (m.2.1 64) (m.1 23) p)) = -1 ∨ NUM (m.2.1 64) (m.1 23) 0 (m.1 34 - 1) (EP (m.2.1 64) (m.1 23) (EP (m.2.1 64) (m.1 23) p)) = NUM (m.2.1 64) (m.1 23) 0 (m.1 34 - 1) (EP (m.2.1 64) (m.1 23) p) ∨ NUM (m.2.1 64) (m.1 23) 0 1 (EP (m.2.1 64) (m.1 23) (EP (m.2.1 64) (m.1 23) (EP (m.2.1 64) (m.1 23) p))) = -1 by omega)]
          have hLQ : LQ (m.2.1 64) (m.1 23) p (m.1 34) (m.1 35) = SK (m.2.1 64) (m.1 23) (EP (m.2.1 64) (m.1 23) (EP (m.2.1 64) (m.1 23) (EP (m.2.1 64) (m.1 23) p))) := by unfold LQ; rw [hLW, if_neg (show ¬ ((w - 1) = -1) by omega), if_neg (show ¬ ((w - 1) = 6 ∨ (w - 1) = 7 ∨ (w - 1) = 8 ∨ (w - 1) = 9 ∨ (w - 1) = 10) by omega), if_neg (show ¬ ((w - 1) = 11) by omega), if_neg (show ¬ (10 ≤ m.1 35) by omega), if_neg (show ¬ (NUM (m.2.1 64) (m.1 23) 0 (m.1 34 - 1) (EP (m.2.1 64) (m.1 23) p) = -1) by omega), if_neg (show ¬ (NUM (m.2.1 64) (m.1 23) 0 (m.1 34 - 1) (EP (m.2.1 64) (m.1 23) (EP (m.2.1 64) (m.1 23) p)) = -1 ∨ NUM (m.2.1 64) (m.1 23) 0 (m.1 34 - 1) (EP (m.2.1 64) (m.1 23) (EP (m.2.1 64) (m.1 23) p)) = NUM (m.2.1 64) (m.1 23) 0 (m.1 34 - 1) (EP (m.2.1 64) (m.1 23) p)) by omega)]
          exact ⟨_, _, rfl, hm51, hf54, Or.inr ⟨rfl, hK, by rw [hLQ]; exact (by have h9 := i2.2.1; rw [hc52.2.1 64 rfl, hc52.1 23 rfl, eTb, eNb] at h9; exact h9)⟩⟩
        · intro kk66
          refine g_iconst rfl ?_
          refine g_goto rfl ?_
          refine g_zret rfl rfl (by omega) ?_
          obtain ⟨-, i1, i2, i3, i4⟩ := p53.resolve_right (fun h => by omega)
          rw [eTb, eNb] at i1 i3 i4
          rw [e24b] at i4
          have hNr3 := NUM_rng (t := m.2.1 64) (n := m.1 23) (lo := 0) (hi := 1) (p := EP (m.2.1 64) (m.1 23) (EP (m.2.1 64) (m.1 23) (EP (m.2.1 64) (m.1 23) p)))
          have hK : LK (m.2.1 64) (m.1 23) p (m.1 34) (m.1 35) (m.1 36) = 1 := by unfold LK; rw [hLW, if_neg (show ¬ ((w - 1) = -1) by omega), if_neg (show ¬ ((w - 1) = 6) by omega), if_neg (show ¬ ((w - 1) = 7 ∨ (w - 1) = 10) by omega), if_neg (show ¬ ((w - 1) = 8) by omega), if_neg (show ¬ ((w - 1) = 9) by omega), if_neg (show ¬ ((w - 1) = 11) by omega), if_neg (show ¬ (10 ≤ m.1 35 ∨ NUM (m.2.1 64) (m.1 23) 0 (m.1 34 - 1) (EP (m.2.1 64) (m.1 23) p) = -1 ∨ NUM (m.2.1 64) (m.1 23) 0 (m.1 34 - 1) (EP (m.2.1 64) (m.1 23) (EP (m.2.1 64) (m.1 23) p)) = -1 ∨ NUM (m.2.1 64) (m.1 23) 0 (m.1 34 - 1) (EP (m.2.1 64) (m.1 23) (EP (m.2.1 64) (m.1 23) p)) = NUM (m.2.1 64) (m.1 23) 0 (m.1 34 - 1) (EP (m.2.1 64) (m.1 23) p) ∨ NUM (m.2.1 64) (m.1 23) 0 1 (EP (m.2.1 64) (m.1 23) (EP (m.2.1 64) (m.1 23) (EP (m.2.1 64) (m.1 23) p))) = -1) by omega)]
          have hLE : LE (m.2.1 64) (m.1 23) p = EP (m.2.1 64) (m.1 23) (EP (m.2.1 64) (m.1 23) (EP (m.2.1 64) (m.1 23) (EP (m.2.1 64) (m.1 23) p))) := by unfold LE; rw [hLW, if_neg (show ¬ ((w - 1) = 6 ∨ (w - 1) = 7 ∨ (w - 1) = 8 ∨ (w - 1) = 9 ∨ (w - 1) = 10) by omega), if_neg (show ¬ ((w - 1) = 11) by omega)]
          have r1 : m49.2.1 65 (4 * m.1 24 + 1) = NUM (m.2.1 64) (m.1 23) 0 (m.1 34 - 1) (EP (m.2.1 64) (m.1 23) p) := by rw [i4, up_ne _ (by omega), j4, up_ne _ (by omega), k4, show 4 * m.1 24 + 1 + 0 = 4 * m.1 24 + 1 by omega, up_same]
          have r2 : m49.2.1 65 (4 * m.1 24 + 2) = NUM (m.2.1 64) (m.1 23) 0 (m.1 34 - 1) (EP (m.2.1 64) (m.1 23) (EP (m.2.1 64) (m.1 23) p)) := by rw [i4, up_ne _ (by omega), j4, show 4 * m.1 24 + 1 + 1 = 4 * m.1 24 + 2 by omega, up_same]
          have r3 : m49.2.1 65 (4 * m.1 24 + 3) = NUM (m.2.1 64) (m.1 23) 0 1 (EP (m.2.1 64) (m.1 23) (EP (m.2.1 64) (m.1 23) (EP (m.2.1 64) (m.1 23) p))) := by rw [i4, show 4 * m.1 24 + 1 + 2 = 4 * m.1 24 + 3 by omega, up_same]
          exact ⟨_, _, rfl, hm51, hf54, Or.inl ⟨rfl, hK, by rw [hLE]; exact i3, (by rw [if_neg (show ¬ (w = 8) by omega)]; exact (hc52.1 36 rfl).trans e36b), (fun h => by omega), (fun h => by omega), Or.inr (Or.inr (Or.inr (Or.inr (Or.inr ⟨by omega, by omega, by omega, by omega, by omega, by omega, by omega, by rw [r1, r2]; exact fun h => j2 h.symm, by omega, by omega⟩)))), (fun j hj => by rw [i4, up_ne _ (by omega), j4, up_ne _ (by omega), k4, up_ne _ (by omega)]), (fun _ => ⟨r1, r2, r3⟩), (fun h => by omega)⟩⟩
  have J67 : (w = 7 ∨ w = 10) → cg_G V mX10_readsRest d q (R_I (fun z m' => (kI m') ∧ (fr [31, 32, 33, 36] [65] m m') ∧ ((z = 1 ∧ LK (m.2.1 64) (m.1 23) p (m.1 34) (m.1 35) (m.1 36) = 1 ∧ tk m' (LE (m.2.1 64) (m.1 23) p) ∧ m'.1 36 = (if w = 8 then stb (m.1 36) (m'.2.1 65 (4 * m.1 24 + 1)) else m.1 36) ∧ (w = 0 → m'.2.1 65 (4 * m.1 24 + 1) = NUM (m.2.1 64) (m.1 23) 2 6 (EP (m.2.1 64) (m.1 23) p)) ∧ (w = 8 → m'.2.1 65 (4 * m.1 24 + 1) = NUM (m.2.1 64) (m.1 23) 0 (m.1 34 - 1) (EP (m.2.1 64) (m.1 23) p)) ∧ rv w (m'.2.1 65 (4 * m.1 24 + 1)) (m'.2.1 65 (4 * m.1 24 + 2)) (m'.2.1 65 (4 * m.1 24 + 3)) (m.1 35) (m.1 36) ∧ (∀ j : Int, j < 4 * m.1 24 + 1 → m'.2.1 65 j = m.2.1 65 j) ∧ (1 ≤ w ∧ w ≤ 6 → m'.2.1 65 (4 * m.1 24 + 1) = NUM (m.2.1 64) (m.1 23) 0 (m.1 34 - 1) (EP (m.2.1 64) (m.1 23) p) ∧ m'.2.1 65 (4 * m.1 24 + 2) = NUM (m.2.1 64) (m.1 23) 0 (m.1 34 - 1) (EP (m.2.1 64) (m.1 23) (EP (m.2.1 64) (m.1 23) p)) ∧ m'.2.1 65 (4 * m.1 24 + 3) = NUM (m.2.1 64) (m.1 23) 0 1 (EP (m.2.1 64) (m.1 23) (EP (m.2.1 64) (m.1 23) (EP (m.2.1 64) (m.1 23) p)))) ∧ (w = 10 → m'.2.1 65 (4 * m.1 24 + 1) = NUM (m.2.1 64) (m.1 23) 0 (m.1 34 - 1) (EP (m.2.1 64) (m.1 23) p))) ∨ (z = 0 ∧ LK (m.2.1 64) (m.1 23) p (m.1 34) (m.1 35) (m.1 36) = 0 ∧ m'.1 32 = LQ (m.2.1 64) (m.1 23) p (m.1 34) (m.1 35))))) 82 [(2, vI (m.1 34 - 1)), (0, vR 61), (1, vI w)] [] (kl m) 0 0 := by
    intro kk68
    have hLW : LW (m.2.1 64) (m.1 23) p = w := by omega
    clear hW
    refine g_aload_n (n := 0) rfl rfl ?_
    refine g_iconst rfl ?_
    refine g_iconst rfl ?_
    refine g_iload_n (n := 2) rfl rfl ?_
    refine g_iconst rfl ?_
    refine c_vI (i := 61) (ps := [vI (-1), vI (m.1 34 - 1), vI 0, vI 0]) (r := []) (as := [vR 61, vI 0, vI 0, vI (m.1 34 - 1), vI (-1)]) (cs' := 0) (sl' := 0) rfl rfl rfl rfl rfl rfl (kl_61 _) (d_reads (d := d - 1) (q := q - (7 + 19)) (by omega) (by omega) hm (k := 0) (a := 0) (b := (m.1 34 - 1)) (u := (-1)) (show 0 ≤ 0 ∧ 0 ≤ 2 by omega) (show 0 ≤ 0 ∧ 0 ≤ 2 by omega) (show 0 ≤ (m.1 34 - 1) ∧ (m.1 34 - 1) ≤ 6 by omega) (show (-2147483648) ≤ (-1) ∧ (-1) ≤ 2147483647 by omega) ht hr9) (by omega) (show 7 + 19 ≤ q by omega) (Nat.le_of_ble_eq_true rfl) (Nat.le_of_ble_eq_true rfl) rfl rfl rfl ?_
    rintro z69 m70 ⟨hm72, hc73, p74⟩
    have hf75 : fr [31, 32, 33, 36] [65] m m70 := fr_tr hf0 (fr_le hc73 rfl rfl)
    have h76 : m70.1 23 = m.1 23 := hc73.1 23 rfl
    have h77 : 0 ≤ m70.1 23 ∧ m70.1 23 ≤ 200 := hm72.1 23
    have h78 : m70.1 24 = m.1 24 := hc73.1 24 rfl
    have h79 : 0 ≤ m70.1 24 ∧ m70.1 24 ≤ 10 := hm72.1 24
    have h80 : m70.1 34 = m.1 34 := hc73.1 34 rfl
    have h81 : 0 ≤ m70.1 34 ∧ m70.1 34 ≤ 6 := hm72.1 34
    have h82 : m70.1 35 = m.1 35 := hc73.1 35 rfl
    have h83 : 0 ≤ m70.1 35 ∧ m70.1 35 ≤ 10 := hm72.1 35
    have h84 : m70.1 36 = m.1 36 := hc73.1 36 rfl
    have h85 : 0 ≤ m70.1 36 ∧ m70.1 36 ≤ 63 := hm72.1 36
    refine g_zret rfl rfl (by omega) ?_
    have hNr := NUM_rng (t := m.2.1 64) (n := m.1 23) (lo := 0) (hi := (m.1 34 - 1)) (p := EP (m.2.1 64) (m.1 23) p)
    have eT : m70.2.1 64 = m.2.1 64 := hc73.2.1 64 rfl
    have eN : m70.1 23 = m.1 23 := hc73.1 23 rfl
    have e36 : m70.1 36 = m.1 36 := hc73.1 36 rfl
    rcases p74 with ⟨rfl, k1, k2, k3, k4⟩ | ⟨rfl, k1, k2⟩
    · have hK : LK (m.2.1 64) (m.1 23) p (m.1 34) (m.1 35) (m.1 36) = 1 := by unfold LK; rw [hLW, if_neg (show ¬ (w = -1) by omega), if_neg (show ¬ (w = 6) by omega), if_pos (show w = 7 ∨ w = 10 by omega), if_neg (show ¬ (NUM (m.2.1 64) (m.1 23) 0 (m.1 34 - 1) (EP (m.2.1 64) (m.1 23) p) = -1) by omega)]
      have hLE : LE (m.2.1 64) (m.1 23) p = EP (m.2.1 64) (m.1 23) (EP (m.2.1 64) (m.1 23) p) := by unfold LE; rw [hLW, if_pos (show w = 6 ∨ w = 7 ∨ w = 8 ∨ w = 9 ∨ w = 10 by omega)]
      have r1 : m70.2.1 65 (4 * m.1 24 + 1) = NUM (m.2.1 64) (m.1 23) 0 (m.1 34 - 1) (EP (m.2.1 64) (m.1 23) p) := by rw [k4, show 4 * m.1 24 + 1 + 0 = 4 * m.1 24 + 1 by omega, up_same]
      exact ⟨_, _, rfl, hm72, hf75, Or.inl ⟨rfl, hK, by rw [hLE]; exact k3, (by rw [if_neg (show ¬ (w = 8) by omega)]; exact e36), (fun h => by omega), (fun h => by omega), Or.inr (Or.inl ⟨by omega, by omega, by omega⟩), (fun j hj => by rw [k4, up_ne _ (by omega)]), (fun h => by omega), (fun _ => r1)⟩⟩
    · have hK : LK (m.2.1 64) (m.1 23) p (m.1 34) (m.1 35) (m.1 36) = 0 := by unfold LK; rw [hLW, if_neg (show ¬ (w = -1) by omega), if_neg (show ¬ (w = 6) by omega), if_pos (show w = 7 ∨ w = 10 by omega), if_pos (show NUM (m.2.1 64) (m.1 23) 0 (m.1 34 - 1) (EP (m.2.1 64) (m.1 23) p) = -1 by omega)]
      have hLQ : LQ (m.2.1 64) (m.1 23) p (m.1 34) (m.1 35) = SK (m.2.1 64) (m.1 23) (EP (m.2.1 64) (m.1 23) p) := by unfold LQ; rw [hLW, if_neg (show ¬ (w = -1) by omega), if_pos (show w = 6 ∨ w = 7 ∨ w = 8 ∨ w = 9 ∨ w = 10 by omega)]
      exact ⟨_, _, rfl, hm72, hf75, Or.inr ⟨rfl, hK, by rw [hLQ]; exact (by have h9 := k2.2.1; rw [eT, eN] at h9; exact h9)⟩⟩
  rcases kk6 with kk6 | kk6 | kk6 | kk6 | kk6 | kk6 | kk6 | kk6 | kk6 | kk6 | kk6 | kk6
  · refine g_tsw_in (tg := 72) (o9 := 64) (by omega) (by omega) rfl (by omega) (by omega) (by rw [kk6]; rfl) (by decide) ?_
    have hLW : LW (m.2.1 64) (m.1 23) p = 6 := by omega
    clear hW
    refine g_aload_n (n := 0) rfl rfl ?_
    refine g_iconst rfl ?_
    refine g_iconst rfl ?_
    refine g_bipush (by decide) rfl ?_
    refine g_iconst rfl ?_
    refine c_vI (i := 61) (ps := [vI (-1), vI 6, vI 2, vI 0]) (r := []) (as := [vR 61, vI 0, vI 2, vI 6, vI (-1)]) (cs' := 0) (sl' := 0) rfl rfl rfl rfl rfl rfl (kl_61 _) (d_reads (d := d - 1) (q := q - (7 + 19)) (by omega) (by omega) hm (k := 0) (a := 2) (b := 6) (u := (-1)) (show 0 ≤ 0 ∧ 0 ≤ 2 by omega) (show 0 ≤ 2 ∧ 2 ≤ 2 by omega) (show 0 ≤ 6 ∧ 6 ≤ 6 by omega) (show (-2147483648) ≤ (-1) ∧ (-1) ≤ 2147483647 by omega) ht hr9) (by omega) (show 7 + 19 ≤ q by omega) (Nat.le_of_ble_eq_true rfl) (Nat.le_of_ble_eq_true rfl) rfl rfl rfl ?_
    rintro z86 m87 ⟨hm89, hc90, p91⟩
    have hf92 : fr [31, 32, 33, 36] [65] m m87 := fr_tr hf0 (fr_le hc90 rfl rfl)
    have h93 : m87.1 23 = m.1 23 := hc90.1 23 rfl
    have h94 : 0 ≤ m87.1 23 ∧ m87.1 23 ≤ 200 := hm89.1 23
    have h95 : m87.1 24 = m.1 24 := hc90.1 24 rfl
    have h96 : 0 ≤ m87.1 24 ∧ m87.1 24 ≤ 10 := hm89.1 24
    have h97 : m87.1 34 = m.1 34 := hc90.1 34 rfl
    have h98 : 0 ≤ m87.1 34 ∧ m87.1 34 ≤ 6 := hm89.1 34
    have h99 : m87.1 35 = m.1 35 := hc90.1 35 rfl
    have h100 : 0 ≤ m87.1 35 ∧ m87.1 35 ≤ 10 := hm89.1 35
    have h101 : m87.1 36 = m.1 36 := hc90.1 36 rfl
    have h102 : 0 ≤ m87.1 36 ∧ m87.1 36 ≤ 63 := hm89.1 36
    refine g_zret rfl rfl (by omega) ?_
    have hNr := NUM_rng (t := m.2.1 64) (n := m.1 23) (lo := 2) (hi := 6) (p := EP (m.2.1 64) (m.1 23) p)
    have eT : m87.2.1 64 = m.2.1 64 := hc90.2.1 64 rfl
    have eN : m87.1 23 = m.1 23 := hc90.1 23 rfl
    have e36 : m87.1 36 = m.1 36 := hc90.1 36 rfl
    rcases p91 with ⟨rfl, k1, k2, k3, k4⟩ | ⟨rfl, k1, k2⟩
    · have hK : LK (m.2.1 64) (m.1 23) p (m.1 34) (m.1 35) (m.1 36) = 1 := by unfold LK; rw [hLW, if_neg (show ¬ ((6 : Int) = -1) by omega), if_pos (show (6 : Int) = 6 by omega), if_neg (show ¬ (NUM (m.2.1 64) (m.1 23) 2 6 (EP (m.2.1 64) (m.1 23) p) = -1) by omega)]
      have hLE : LE (m.2.1 64) (m.1 23) p = EP (m.2.1 64) (m.1 23) (EP (m.2.1 64) (m.1 23) p) := by unfold LE; rw [hLW, if_pos (show (6 : Int) = 6 ∨ (6 : Int) = 7 ∨ (6 : Int) = 8 ∨ (6 : Int) = 9 ∨ (6 : Int) = 10 by omega)]
      have r1 : m87.2.1 65 (4 * m.1 24 + 1) = NUM (m.2.1 64) (m.1 23) 2 6 (EP (m.2.1 64) (m.1 23) p) := by rw [k4, show 4 * m.1 24 + 1 + 0 = 4 * m.1 24 + 1 by omega, up_same]
      exact ⟨_, _, rfl, hm89, hf92, Or.inl ⟨rfl, hK, by rw [hLE]; exact k3, (by rw [if_neg (show ¬ (w = 8) by omega)]; exact e36), (fun _ => r1), (fun h => by omega), Or.inl ⟨by omega, by omega, by omega⟩, (fun j hj => by rw [k4, up_ne _ (by omega)]), (fun h => by omega), (fun h => by omega)⟩⟩
    · have hK : LK (m.2.1 64) (m.1 23) p (m.1 34) (m.1 35) (m.1 36) = 0 := by unfold LK; rw [hLW, if_neg (show ¬ ((6 : Int) = -1) by omega), if_pos (show (6 : Int) = 6 by omega), if_pos (show NUM (m.2.1 64) (m.1 23) 2 6 (EP (m.2.1 64) (m.1 23) p) = -1 by omega)]
      have hLQ : LQ (m.2.1 64) (m.1 23) p (m.1 34) (m.1 35) = SK (m.2.1 64) (m.1 23) (EP (m.2.1 64) (m.1 23) p) := by unfold LQ; rw [hLW, if_neg (show ¬ ((6 : Int) = -1) by omega), if_pos (show (6 : Int) = 6 ∨ (6 : Int) = 7 ∨ (6 : Int) = 8 ∨ (6 : Int) = 9 ∨ (6 : Int) = 10 by omega)]
      exact ⟨_, _, rfl, hm89, hf92, Or.inr ⟨rfl, hK, by rw [hLQ]; exact (by have h9 := k2.2.1; rw [eT, eN] at h9; exact h9)⟩⟩
  · refine g_tsw_in (tg := 133) (o9 := 125) (by omega) (by omega) rfl (by omega) (by omega) (by rw [kk6]; rfl) (by decide) ?_
    exact J7 (by omega)
  · refine g_tsw_in (tg := 133) (o9 := 125) (by omega) (by omega) rfl (by omega) (by omega) (by rw [kk6]; rfl) (by decide) ?_
    exact J7 (by omega)
  · refine g_tsw_in (tg := 133) (o9 := 125) (by omega) (by omega) rfl (by omega) (by omega) (by rw [kk6]; rfl) (by decide) ?_
    exact J7 (by omega)
  · refine g_tsw_in (tg := 133) (o9 := 125) (by omega) (by omega) rfl (by omega) (by omega) (by rw [kk6]; rfl) (by decide) ?_
    exact J7 (by omega)
  · refine g_tsw_in (tg := 133) (o9 := 125) (by omega) (by omega) rfl (by omega) (by omega) (by rw [kk6]; rfl) (by decide) ?_
    exact J7 (by omega)
  · refine g_tsw_in (tg := 133) (o9 := 125) (by omega) (by omega) rfl (by omega) (by omega) (by rw [kk6]; rfl) (by decide) ?_
    exact J7 (by omega)
  · refine g_tsw_in (tg := 82) (o9 := 74) (by omega) (by omega) rfl (by omega) (by omega) (by rw [kk6]; rfl) (by decide) ?_
    exact J67 (by omega)
  · refine g_tsw_in (tg := 91) (o9 := 83) (by omega) (by omega) rfl (by omega) (by omega) (by rw [kk6]; rfl) (by decide) ?_
    have hLW : LW (m.2.1 64) (m.1 23) p = 8 := by omega
    clear hW
    refine g_aload_n (n := 0) rfl rfl ?_
    refine c_vI (i := 61) (ps := []) (r := []) (as := [vR 61]) (cs' := 0) (sl' := 0) rfl rfl rfl rfl rfl rfl (kl_61 _) (d_readsHungry (d := d - 1) (q := q - (5 + 19)) (by omega) (by omega) hm  ht hr9 hR hp4) (by omega) (show 5 + 19 ≤ q by omega) (Nat.le_of_ble_eq_true rfl) (Nat.le_of_ble_eq_true rfl) rfl rfl rfl ?_
    rintro z103 m104 ⟨hm106, hc107, p108⟩
    have hf109 : fr [31, 32, 33, 36] [65] m m104 := fr_tr hf0 (fr_le hc107 rfl rfl)
    have h110 : m104.1 23 = m.1 23 := hc107.1 23 rfl
    have h111 : 0 ≤ m104.1 23 ∧ m104.1 23 ≤ 200 := hm106.1 23
    have h112 : m104.1 24 = m.1 24 := hc107.1 24 rfl
    have h113 : 0 ≤ m104.1 24 ∧ m104.1 24 ≤ 10 := hm106.1 24
    have h114 : m104.1 34 = m.1 34 := hc107.1 34 rfl
    have h115 : 0 ≤ m104.1 34 ∧ m104.1 34 ≤ 6 := hm106.1 34
    have h116 : m104.1 35 = m.1 35 := hc107.1 35 rfl
    have h117 : 0 ≤ m104.1 35 ∧ m104.1 35 ≤ 10 := hm106.1 35
    refine g_zret rfl rfl (by omega) ?_
    have hNr := NUM_rng (t := m.2.1 64) (n := m.1 23) (lo := 0) (hi := m.1 34 - 1) (p := EP (m.2.1 64) (m.1 23) p)
    rcases p108 with ⟨rfl, k1, k2, k3, k4, k5, k6⟩ | ⟨rfl, k1, k2⟩
    · have hK : LK (m.2.1 64) (m.1 23) p (m.1 34) (m.1 35) (m.1 36) = 1 := by unfold LK; rw [hLW, if_neg (show ¬ ((8 : Int) = -1) by omega), if_neg (show ¬ ((8 : Int) = 6) by omega), if_neg (show ¬ ((8 : Int) = 7 ∨ (8 : Int) = 10) by omega), if_pos (show (8 : Int) = 8 by omega), if_neg (show ¬ (NUM (m.2.1 64) (m.1 23) 0 (m.1 34 - 1) (EP (m.2.1 64) (m.1 23) p) = -1 ∨ hb (m.1 36) (NUM (m.2.1 64) (m.1 23) 0 (m.1 34 - 1) (EP (m.2.1 64) (m.1 23) p)) = 1 ∨ 4 ≤ pcn (m.1 36)) by omega)]
      have hLE : LE (m.2.1 64) (m.1 23) p = EP (m.2.1 64) (m.1 23) (EP (m.2.1 64) (m.1 23) p) := by unfold LE; rw [hLW, if_pos (show (8 : Int) = 6 ∨ (8 : Int) = 7 ∨ (8 : Int) = 8 ∨ (8 : Int) = 9 ∨ (8 : Int) = 10 by omega)]
      have r1 : m104.2.1 65 (4 * m.1 24 + 1) = NUM (m.2.1 64) (m.1 23) 0 (m.1 34 - 1) (EP (m.2.1 64) (m.1 23) p) := by rw [k6, up_same]
      exact ⟨_, _, rfl, hm106, hf109, Or.inl ⟨rfl, hK, by rw [hLE]; exact k4, (by rw [if_pos (show w = 8 by omega), r1]; exact k5), (fun h => by omega), (fun _ => r1), Or.inr (Or.inr (Or.inl ⟨by omega, by omega, by omega, by rw [r1]; exact k2, k3⟩)), (fun j hj => by rw [k6, up_ne _ (by omega)]), (fun h => by omega), (fun h => by omega)⟩⟩
    · have hK : LK (m.2.1 64) (m.1 23) p (m.1 34) (m.1 35) (m.1 36) = 0 := by unfold LK; rw [hLW, if_neg (show ¬ ((8 : Int) = -1) by omega), if_neg (show ¬ ((8 : Int) = 6) by omega), if_neg (show ¬ ((8 : Int) = 7 ∨ (8 : Int) = 10) by omega), if_pos (show (8 : Int) = 8 by omega), if_pos (show NUM (m.2.1 64) (m.1 23) 0 (m.1 34 - 1) (EP (m.2.1 64) (m.1 23) p) = -1 ∨ hb (m.1 36) (NUM (m.2.1 64) (m.1 23) 0 (m.1 34 - 1) (EP (m.2.1 64) (m.1 23) p)) = 1 ∨ 4 ≤ pcn (m.1 36) by omega)]
      have hLQ : LQ (m.2.1 64) (m.1 23) p (m.1 34) (m.1 35) = SK (m.2.1 64) (m.1 23) (EP (m.2.1 64) (m.1 23) p) := by unfold LQ; rw [hLW, if_neg (show ¬ ((8 : Int) = -1) by omega), if_pos (show (8 : Int) = 6 ∨ (8 : Int) = 7 ∨ (8 : Int) = 8 ∨ (8 : Int) = 9 ∨ (8 : Int) = 10 by omega)]
      exact ⟨_, _, rfl, hm106, hf109, Or.inr ⟨rfl, hK, by rw [hLQ]; exact k2⟩⟩
  · refine g_tsw_in (tg := 96) (o9 := 88) (by omega) (by omega) rfl (by omega) (by omega) (by rw [kk6]; rfl) (by decide) ?_
    have hLW : LW (m.2.1 64) (m.1 23) p = 9 := by omega
    clear hW
    refine g_aload_n (n := 0) rfl rfl ?_
    refine g_iconst rfl ?_
    refine g_iconst rfl ?_
    refine g_iconst rfl ?_
    refine g_iconst rfl ?_
    refine c_vI (i := 61) (ps := [vI (-1), vI 3, vI 0, vI 0]) (r := []) (as := [vR 61, vI 0, vI 0, vI 3, vI (-1)]) (cs' := 0) (sl' := 0) rfl rfl rfl rfl rfl rfl (kl_61 _) (d_reads (d := d - 1) (q := q - (7 + 19)) (by omega) (by omega) hm (k := 0) (a := 0) (b := 3) (u := (-1)) (show 0 ≤ 0 ∧ 0 ≤ 2 by omega) (show 0 ≤ 0 ∧ 0 ≤ 2 by omega) (show 0 ≤ 3 ∧ 3 ≤ 6 by omega) (show (-2147483648) ≤ (-1) ∧ (-1) ≤ 2147483647 by omega) ht hr9) (by omega) (show 7 + 19 ≤ q by omega) (Nat.le_of_ble_eq_true rfl) (Nat.le_of_ble_eq_true rfl) rfl rfl rfl ?_
    rintro z118 m119 ⟨hm121, hc122, p123⟩
    have hf124 : fr [31, 32, 33, 36] [65] m m119 := fr_tr hf0 (fr_le hc122 rfl rfl)
    have h125 : m119.1 23 = m.1 23 := hc122.1 23 rfl
    have h126 : 0 ≤ m119.1 23 ∧ m119.1 23 ≤ 200 := hm121.1 23
    have h127 : m119.1 24 = m.1 24 := hc122.1 24 rfl
    have h128 : 0 ≤ m119.1 24 ∧ m119.1 24 ≤ 10 := hm121.1 24
    have h129 : m119.1 34 = m.1 34 := hc122.1 34 rfl
    have h130 : 0 ≤ m119.1 34 ∧ m119.1 34 ≤ 6 := hm121.1 34
    have h131 : m119.1 35 = m.1 35 := hc122.1 35 rfl
    have h132 : 0 ≤ m119.1 35 ∧ m119.1 35 ≤ 10 := hm121.1 35
    have h133 : m119.1 36 = m.1 36 := hc122.1 36 rfl
    have h134 : 0 ≤ m119.1 36 ∧ m119.1 36 ≤ 63 := hm121.1 36
    refine g_zret rfl rfl (by omega) ?_
    have hNr := NUM_rng (t := m.2.1 64) (n := m.1 23) (lo := 0) (hi := 3) (p := EP (m.2.1 64) (m.1 23) p)
    have eT : m119.2.1 64 = m.2.1 64 := hc122.2.1 64 rfl
    have eN : m119.1 23 = m.1 23 := hc122.1 23 rfl
    have e36 : m119.1 36 = m.1 36 := hc122.1 36 rfl
    rcases p123 with ⟨rfl, k1, k2, k3, k4⟩ | ⟨rfl, k1, k2⟩
    · have hK : LK (m.2.1 64) (m.1 23) p (m.1 34) (m.1 35) (m.1 36) = 1 := by unfold LK; rw [hLW, if_neg (show ¬ ((9 : Int) = -1) by omega), if_neg (show ¬ ((9 : Int) = 6) by omega), if_neg (show ¬ ((9 : Int) = 7 ∨ (9 : Int) = 10) by omega), if_neg (show ¬ ((9 : Int) = 8) by omega), if_pos (show (9 : Int) = 9 by omega), if_neg (show ¬ (NUM (m.2.1 64) (m.1 23) 0 3 (EP (m.2.1 64) (m.1 23) p) = -1) by omega)]
      have hLE : LE (m.2.1 64) (m.1 23) p = EP (m.2.1 64) (m.1 23) (EP (m.2.1 64) (m.1 23) p) := by unfold LE; rw [hLW, if_pos (show (9 : Int) = 6 ∨ (9 : Int) = 7 ∨ (9 : Int) = 8 ∨ (9 : Int) = 9 ∨ (9 : Int) = 10 by omega)]
      have r1 : m119.2.1 65 (4 * m.1 24 + 1) = NUM (m.2.1 64) (m.1 23) 0 3 (EP (m.2.1 64) (m.1 23) p) := by rw [k4, show 4 * m.1 24 + 1 + 0 = 4 * m.1 24 + 1 by omega, up_same]
      exact ⟨_, _, rfl, hm121, hf124, Or.inl ⟨rfl, hK, by rw [hLE]; exact k3, (by rw [if_neg (show ¬ (w = 8) by omega)]; exact e36), (fun h => by omega), (fun h => by omega), Or.inr (Or.inr (Or.inr (Or.inl ⟨by omega, by omega, by omega⟩))), (fun j hj => by rw [k4, up_ne _ (by omega)]), (fun h => by omega), (fun h => by omega)⟩⟩
    · have hK : LK (m.2.1 64) (m.1 23) p (m.1 34) (m.1 35) (m.1 36) = 0 := by unfold LK; rw [hLW, if_neg (show ¬ ((9 : Int) = -1) by omega), if_neg (show ¬ ((9 : Int) = 6) by omega), if_neg (show ¬ ((9 : Int) = 7 ∨ (9 : Int) = 10) by omega), if_neg (show ¬ ((9 : Int) = 8) by omega), if_pos (show (9 : Int) = 9 by omega), if_pos (show NUM (m.2.1 64) (m.1 23) 0 3 (EP (m.2.1 64) (m.1 23) p) = -1 by omega)]
      have hLQ : LQ (m.2.1 64) (m.1 23) p (m.1 34) (m.1 35) = SK (m.2.1 64) (m.1 23) (EP (m.2.1 64) (m.1 23) p) := by unfold LQ; rw [hLW, if_neg (show ¬ ((9 : Int) = -1) by omega), if_pos (show (9 : Int) = 6 ∨ (9 : Int) = 7 ∨ (9 : Int) = 8 ∨ (9 : Int) = 9 ∨ (9 : Int) = 10 by omega)]
      exact ⟨_, _, rfl, hm121, hf124, Or.inr ⟨rfl, hK, by rw [hLQ]; exact (by have h9 := k2.2.1; rw [eT, eN] at h9; exact h9)⟩⟩
  · refine g_tsw_in (tg := 82) (o9 := 74) (by omega) (by omega) rfl (by omega) (by omega) (by rw [kk6]; rfl) (by decide) ?_
    exact J67 (by omega)
  · refine g_tsw_in (tg := 105) (o9 := 97) (by omega) (by omega) rfl (by omega) (by omega) (by rw [kk6]; rfl) (by decide) ?_
    have hLW : LW (m.2.1 64) (m.1 23) p = 11 := by omega
    clear hW
    refine g_aload_n (n := 0) rfl rfl ?_
    refine g_iconst rfl ?_
    refine g_iconst rfl ?_
    refine g_iconst rfl ?_
    refine g_iconst rfl ?_
    refine c_vI (i := 61) (ps := [vI (-1), vI 1, vI 0, vI 0]) (r := []) (as := [vR 61, vI 0, vI 0, vI 1, vI (-1)]) (cs' := 0) (sl' := 0) rfl rfl rfl rfl rfl rfl (kl_61 _) (d_reads (d := d - 1) (q := q - (7 + 19)) (by omega) (by omega) hm (k := 0) (a := 0) (b := 1) (u := (-1)) (show 0 ≤ 0 ∧ 0 ≤ 2 by omega) (show 0 ≤ 0 ∧ 0 ≤ 2 by omega) (show 0 ≤ 1 ∧ 1 ≤ 6 by omega) (show (-2147483648) ≤ (-1) ∧ (-1) ≤ 2147483647 by omega) ht hr9) (by omega) (show 7 + 19 ≤ q by omega) (Nat.le_of_ble_eq_true rfl) (Nat.le_of_ble_eq_true rfl) rfl rfl rfl ?_
    rintro z135 m136 ⟨hm138, hc139, p140⟩
    have hf141 : fr [31, 32, 33, 36] [65] m m136 := fr_tr hf0 (fr_le hc139 rfl rfl)
    have h142 : m136.1 23 = m.1 23 := hc139.1 23 rfl
    have h143 : 0 ≤ m136.1 23 ∧ m136.1 23 ≤ 200 := hm138.1 23
    have h144 : m136.1 24 = m.1 24 := hc139.1 24 rfl
    have h145 : 0 ≤ m136.1 24 ∧ m136.1 24 ≤ 10 := hm138.1 24
    have h146 : m136.1 34 = m.1 34 := hc139.1 34 rfl
    have h147 : 0 ≤ m136.1 34 ∧ m136.1 34 ≤ 6 := hm138.1 34
    have h148 : m136.1 35 = m.1 35 := hc139.1 35 rfl
    have h149 : 0 ≤ m136.1 35 ∧ m136.1 35 ≤ 10 := hm138.1 35
    have h150 : m136.1 36 = m.1 36 := hc139.1 36 rfl
    have h151 : 0 ≤ m136.1 36 ∧ m136.1 36 ≤ 63 := hm138.1 36
    refine g_if_eq (by omega) (by omega) rfl ?_ ?_
    · intro kk152
      refine g_iconst rfl ?_
      refine g_zret rfl rfl (by omega) ?_
      obtain ⟨-, k1, k2⟩ := p140.resolve_left (fun h => by omega)
      have hK : LK (m.2.1 64) (m.1 23) p (m.1 34) (m.1 35) (m.1 36) = 0 := by unfold LK; rw [hLW, if_neg (show ¬ ((11 : Int) = -1) by omega), if_neg (show ¬ ((11 : Int) = 6) by omega), if_neg (show ¬ ((11 : Int) = 7 ∨ (11 : Int) = 10) by omega), if_neg (show ¬ ((11 : Int) = 8) by omega), if_neg (show ¬ ((11 : Int) = 9) by omega), if_pos (show (11 : Int) = 11 by omega), if_pos (show NUM (m.2.1 64) (m.1 23) 0 1 (EP (m.2.1 64) (m.1 23) p) = -1 ∨ NUM (m.2.1 64) (m.1 23) 0 (m.1 34 - 1) (EP (m.2.1 64) (m.1 23) (EP (m.2.1 64) (m.1 23) p)) = -1 by omega)]
      have hLQ : LQ (m.2.1 64) (m.1 23) p (m.1 34) (m.1 35) = SK (m.2.1 64) (m.1 23) (EP (m.2.1 64) (m.1 23) p) := by unfold LQ; rw [hLW, if_neg (show ¬ ((11 : Int) = -1) by omega), if_neg (show ¬ ((11 : Int) = 6 ∨ (11 : Int) = 7 ∨ (11 : Int) = 8 ∨ (11 : Int) = 9 ∨ (11 : Int) = 10) by omega), if_pos (show (11 : Int) = 11 by omega), if_pos (show NUM (m.2.1 64) (m.1 23) 0 1 (EP (m.2.1 64) (m.1 23) p) = -1 by omega)]
      exact ⟨_, _, rfl, hm138, hf141, Or.inr ⟨rfl, hK, by rw [hLQ]; exact (by have h9 := k2.2.1; rw [hc139.2.1 64 rfl, hc139.1 23 rfl] at h9; exact h9)⟩⟩
    · intro kk153
      obtain ⟨-, k1, k2, k3, k4⟩ := p140.resolve_right (fun h => by omega)
      have eTa : m136.2.1 64 = m.2.1 64 := hc139.2.1 64 rfl
      have eNa : m136.1 23 = m.1 23 := hc139.1 23 rfl
      have eRa : m136.1 34 = m.1 34 := hc139.1 34 rfl
      have e24a : m136.1 24 = m.1 24 := hc139.1 24 rfl
      have e36a : m136.1 36 = m.1 36 := hc139.1 36 rfl
      have hNr1 := NUM_rng (t := m.2.1 64) (n := m.1 23) (lo := 0) (hi := 1) (p := EP (m.2.1 64) (m.1 23) p)
      have hra : m136.1 24 ≤ 9 := by omega
      refine g_aload_n (n := 0) rfl rfl ?_
      refine g_iconst rfl ?_
      refine g_iconst rfl ?_
      refine g_iload_n (n := 2) rfl rfl ?_
      refine g_iconst rfl ?_
      refine c_vI (i := 61) (ps := [vI (-1), vI (m.1 34 - 1), vI 0, vI 1]) (r := []) (as := [vR 61, vI 1, vI 0, vI (m.1 34 - 1), vI (-1)]) (cs' := 0) (sl' := 0) rfl rfl rfl rfl rfl rfl (kl_61 _) (d_reads (d := d - 1) (q := q - (7 + 19)) (by omega) (by omega) hm138 (k := 1) (a := 0) (b := (m.1 34 - 1)) (u := (-1)) (show 0 ≤ 1 ∧ 1 ≤ 2 by omega) (show 0 ≤ 0 ∧ 0 ≤ 2 by omega) (show 0 ≤ (m.1 34 - 1) ∧ (m.1 34 - 1) ≤ 6 by omega) (show (-2147483648) ≤ (-1) ∧ (-1) ≤ 2147483647 by omega) k3 hra) (by omega) (show 7 + 19 ≤ q by omega) (Nat.le_of_ble_eq_true rfl) (Nat.le_of_ble_eq_true rfl) rfl rfl rfl ?_
      rintro z154 m155 ⟨hm157, hc158, p159⟩
      have hf160 : fr [31, 32, 33, 36] [65] m m155 := fr_tr hf141 (fr_le hc158 rfl rfl)
      have h161 : m155.1 23 = m136.1 23 := hc158.1 23 rfl
      have h162 : 0 ≤ m155.1 23 ∧ m155.1 23 ≤ 200 := hm157.1 23
      have h163 : m155.1 24 = m136.1 24 := hc158.1 24 rfl
      have h164 : 0 ≤ m155.1 24 ∧ m155.1 24 ≤ 10 := hm157.1 24
      have h165 : m155.1 34 = m136.1 34 := hc158.1 34 rfl
      have h166 : 0 ≤ m155.1 34 ∧ m155.1 34 ≤ 6 := hm157.1 34
      have h167 : m155.1 35 = m136.1 35 := hc158.1 35 rfl
      have h168 : 0 ≤ m155.1 35 ∧ m155.1 35 ≤ 10 := hm157.1 35
      have h169 : m155.1 36 = m136.1 36 := hc158.1 36 rfl
      have h170 : 0 ≤ m155.1 36 ∧ m155.1 36 ≤ 63 := hm157.1 36
      refine g_if_eq (by omega) (by omega) rfl ?_ ?_
      · intro kk171
        refine g_iconst rfl ?_
        refine g_zret rfl rfl (by omega) ?_
        obtain ⟨-, j1, j2⟩ := p159.resolve_left (fun h => by omega)
        rw [eTa, eNa] at j1
        have hK : LK (m.2.1 64) (m.1 23) p (m.1 34) (m.1 35) (m.1 36) = 0 := by unfold LK; rw [hLW, if_neg (show ¬ ((11 : Int) = -1) by omega), if_neg (show ¬ ((11 : Int) = 6) by omega), if_neg (show ¬ ((11 : Int) = 7 ∨ (11 : Int) = 10) by omega), if_neg (show ¬ ((11 : Int) = 8) by omega), if_neg (show ¬ ((11 : Int) = 9) by omega), if_pos (show (11 : Int) = 11 by omega), if_pos (show NUM (m.2.1 64) (m.1 23) 0 1 (EP (m.2.1 64) (m.1 23) p) = -1 ∨ NUM (m.2.1 64) (m.1 23) 0 (m.1 34 - 1) (EP (m.2.1 64) (m.1 23) (EP (m.2.1 64) (m.1 23) p)) = -1 by omega)]
        have hLQ : LQ (m.2.1 64) (m.1 23) p (m.1 34) (m.1 35) = SK (m.2.1 64) (m.1 23) (EP (m.2.1 64) (m.1 23) (EP (m.2.1 64) (m.1 23) p)) := by unfold LQ; rw [hLW, if_neg (show ¬ ((11 : Int) = -1) by omega), if_neg (show ¬ ((11 : Int) = 6 ∨ (11 : Int) = 7 ∨ (11 : Int) = 8 ∨ (11 : Int) = 9 ∨ (11 : Int) = 10) by omega), if_pos (show (11 : Int) = 11 by omega), if_neg (show ¬ (NUM (m.2.1 64) (m.1 23) 0 1 (EP (m.2.1 64) (m.1 23) p) = -1) by omega)]
        exact ⟨_, _, rfl, hm157, hf160, Or.inr ⟨rfl, hK, by rw [hLQ]; exact (by have h9 := j2.2.1; rw [hc158.2.1 64 rfl, hc158.1 23 rfl, eTa, eNa] at h9; exact h9)⟩⟩
      · intro kk172
        refine g_iconst rfl ?_
        refine g_goto rfl ?_
        refine g_zret rfl rfl (by omega) ?_
        obtain ⟨-, j1, j2, j3, j4⟩ := p159.resolve_right (fun h => by omega)
        rw [eTa, eNa] at j1 j3 j4
        rw [e24a] at j4
        have hNr2 := NUM_rng (t := m.2.1 64) (n := m.1 23) (lo := 0) (hi := m.1 34 - 1) (p := EP (m.2.1 64) (m.1 23) (EP (m.2.1 64) (m.1 23) p))
        have hK : LK (m.2.1 64) (m.1 23) p (m.1 34) (m.1 35) (m.1 36) = 1 := by unfold LK; rw [hLW, if_neg (show ¬ ((11 : Int) = -1) by omega), if_neg (show ¬ ((11 : Int) = 6) by omega), if_neg (show ¬ ((11 : Int) = 7 ∨ (11 : Int) = 10) by omega), if_neg (show ¬ ((11 : Int) = 8) by omega), if_neg (show ¬ ((11 : Int) = 9) by omega), if_pos (show (11 : Int) = 11 by omega), if_neg (show ¬ (NUM (m.2.1 64) (m.1 23) 0 1 (EP (m.2.1 64) (m.1 23) p) = -1 ∨ NUM (m.2.1 64) (m.1 23) 0 (m.1 34 - 1) (EP (m.2.1 64) (m.1 23) (EP (m.2.1 64) (m.1 23) p)) = -1) by omega)]
        have hLE : LE (m.2.1 64) (m.1 23) p = EP (m.2.1 64) (m.1 23) (EP (m.2.1 64) (m.1 23) (EP (m.2.1 64) (m.1 23) p)) := by unfold LE; rw [hLW, if_neg (show ¬ ((11 : Int) = 6 ∨ (11 : Int) = 7 ∨ (11 : Int) = 8 ∨ (11 : Int) = 9 ∨ (11 : Int) = 10) by omega), if_pos (show (11 : Int) = 11 by omega)]
        have r1 : m155.2.1 65 (4 * m.1 24 + 1) = NUM (m.2.1 64) (m.1 23) 0 1 (EP (m.2.1 64) (m.1 23) p) := by rw [j4, up_ne _ (by omega), k4, show 4 * m.1 24 + 1 + 0 = 4 * m.1 24 + 1 by omega, up_same]
        have r2 : m155.2.1 65 (4 * m.1 24 + 2) = NUM (m.2.1 64) (m.1 23) 0 (m.1 34 - 1) (EP (m.2.1 64) (m.1 23) (EP (m.2.1 64) (m.1 23) p)) := by rw [j4, show 4 * m.1 24 + 1 + 1 = 4 * m.1 24 + 2 by omega, up_same]
        exact ⟨_, _, rfl, hm157, hf160, Or.inl ⟨rfl, hK, by rw [hLE]; exact j3, (by rw [if_neg (show ¬ (w = 8) by omega)]; exact (hc158.1 36 rfl).trans e36a), (fun h => by omega), (fun h => by omega), Or.inr (Or.inr (Or.inr (Or.inr (Or.inl ⟨by omega, by omega, by omega, by omega, by omega⟩)))), (fun j hj => by rw [j4, up_ne _ (by omega), k4, up_ne _ (by omega)]), (fun h => by omega), (fun h => by omega)⟩⟩
