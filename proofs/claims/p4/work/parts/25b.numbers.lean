/-! ===== contracts: the model, numbers of lines ===== -/
def tk (m : kM) (p : Int) : Prop := p ≤ m.1 23 ∧ m.1 32 = SK (m.2.1 64) (m.1 23) p ∧ m.1 33 = EP (m.2.1 64) (m.1 23) p ∧ m.1 31 = EP (m.2.1 64) (m.1 23) p
theorem tk_fr {SF SA : List Nat} {m m' : kM} {p : Int} (h : fr SF SA m m') (h1 : SF.contains 23 = false) (h2 : SF.contains 31 = false) (h3 : SF.contains 32 = false) (h4 : SF.contains 33 = false) (h5 : SA.contains 64 = false) (ht : tk m p) : tk m' p := by
  unfold tk
  rw [h.1 23 h1, h.1 31 h2, h.1 32 h3, h.1 33 h4, h.2.1 64 h5]
  exact ht
/-- a line as it was noted: what its numbers are, doors and hungry ones being as they are -/
def rv (w a b c D H : Int) : Prop := (w = 0 ∧ 2 ≤ a ∧ a ≤ 6) ∨ ((w = 7 ∨ w = 10) ∧ 0 ≤ a ∧ a ≤ 5) ∨ (w = 8 ∧ 0 ≤ a ∧ a ≤ 5 ∧ hb H a ≠ 1 ∧ pcn H < 4) ∨ (w = 9 ∧ 0 ≤ a ∧ a ≤ 3) ∨ (w = 11 ∧ 0 ≤ a ∧ a ≤ 1 ∧ 0 ≤ b ∧ b ≤ 5) ∨ (1 ≤ w ∧ w ≤ 6 ∧ D < 10 ∧ 0 ≤ a ∧ a ≤ 5 ∧ 0 ≤ b ∧ b ≤ 5 ∧ a ≠ b ∧ 0 ≤ c ∧ c ≤ 1)
theorem d_reads {V : cg_V} {d q : Nat} (hd : 2 ≤ d) (hq : 40 ≤ q) {m : kM} (hm : kI m) {k a b u : Int} (h_k : 0 ≤ k ∧ k ≤ 2) (h_a : 0 ≤ a ∧ a ≤ 2) (h_b : 0 ≤ b ∧ b ≤ 6) (h_u : (-2147483648) ≤ u ∧ u ≤ 2147483647) {p : Int} (ht : tk m p) (hr9 : m.1 24 ≤ 9) : cg_S V d q mX10_reads [vR 61, vI k, vI a, vI b, vI u] (kl m) (R_I (fun z m' => (kI m') ∧ (fr [31, 32, 33] [65] m m') ∧ ((z = 1 ∧ NUM (m.2.1 64) (m.1 23) a b p ≠ -1 ∧ NUM (m.2.1 64) (m.1 23) a b p ≠ u ∧ tk m' (EP (m.2.1 64) (m.1 23) p) ∧ m'.2.1 65 = up (m.2.1 65) (4 * m.1 24 + 1 + k) (NUM (m.2.1 64) (m.1 23) a b p)) ∨ (z = 0 ∧ (NUM (m.2.1 64) (m.1 23) a b p = -1 ∨ NUM (m.2.1 64) (m.1 23) a b p = u) ∧ tk m' p)))) := by
  have hf0 : fr [31, 32, 33] [65] m m := fr_rf m
  refine cg_of (List.mem_of_getElem? (show ae_MT[129]? = some mX10_reads from rfl)) (Nat.le_of_ble_eq_true rfl) ?_
  show cg_G V mX10_reads d q _ 0 [(0, vR 61), (1, vI k), (2, vI a), (3, vI b), (4, vI u)] [] (kl m) 0 0
  have h1 : 0 ≤ m.1 23 ∧ m.1 23 ≤ 200 := hm.1 23
  have h2 : 0 ≤ m.1 24 ∧ m.1 24 ≤ 10 := hm.1 24
  obtain ⟨hpn, hs, hp, ha⟩ := ht
  have hEr := EP_rng (t := m.2.1 64) hpn
  have u1 := srt_sp (m.2.1 64 (m.1 32))
  have u2 := srt_sp (m.2.1 64 (m.1 32 + 1))
  have hw0 : 0 ≤ m.1 32 ∧ m.1 32 ≤ 200 := hm.1 32
  have hw1 : 0 ≤ m.1 33 ∧ m.1 33 ≤ 200 := hm.1 33
  have hw3 : 0 ≤ m.1 23 ∧ m.1 23 ≤ 200 := hm.1 23
  have e0 : m.1 32 = m.1 23 → m.1 33 = m.1 32 := fun h => by rw [hp]; show TE _ _ (SK _ _ _) = _; rw [← hs]; exact TE_0 (by omega)
  have e1 : m.1 32 < m.1 23 → m.1 32 < m.1 33 := fun h => by rw [hp]; have h9 := (TE_rng (t := m.2.1 64) (n := m.1 23) (s := m.1 32) (by omega)).2.2 h; show _ < TE _ _ (SK _ _ _); rw [← hs]; exact h9
  have hdg : m.1 32 < m.1 23 → srt (m.2.1 64 (m.1 32)) = 2 → m.1 32 + 1 < m.1 33 → srt (m.2.1 64 (m.1 32 + 1)) = 2 := fun x y w => TE_dig x y (by rw [hp] at w; have h9 : m.1 32 + 1 < TE (m.2.1 64) (m.1 23) (SK (m.2.1 64) (m.1 23) p) := w; rw [← hs] at h9; exact h9)
  refine g_aload_n (n := 0) rfl rfl ?_
  have h3 : 0 ≤ m.1 32 ∧ m.1 32 ≤ 200 := hm.1 32
  refine g_getf (v := vI (m.1 32)) rfl (kl_61 _) rfl ?_
  refine g_aload_n (n := 0) rfl rfl ?_
  refine g_getf (v := vI (m.1 23)) rfl (kl_61 _) rfl ?_
  refine g_icmp_eq (by omega) (by omega) (by omega) (by omega) rfl ?_ ?_
  · intro kk4
    refine g_iconst rfl ?_
    refine g_zret rfl rfl (by omega) ?_
    have hN : NUM (m.2.1 64) (m.1 23) a b p = -1 ∨ NUM (m.2.1 64) (m.1 23) a b p = u := by
      left
      unfold NUM
      rw [← hs, ← hp]
      unfold NU
      (repeat' split) <;> omega
    exact ⟨_, _, rfl, hm, hf0, Or.inr ⟨rfl, hN, ⟨hpn, hs, hp, ha⟩⟩⟩
  · intro kk5
    refine g_aload_n (n := 0) rfl rfl ?_
    refine g_getf (v := vR 64) rfl (kl_61 _) rfl ?_
    refine g_aload_n (n := 0) rfl rfl ?_
    refine g_getf (v := vI (m.1 32)) rfl (kl_61 _) rfl ?_
    have h6 : 0 ≤ m.2.1 64 (m.1 32) ∧ m.2.1 64 (m.1 32) ≤ 255 := hm.2 64 (m.1 32) (by omega) (show m.1 32 < (200 : Int) by omega)
    refine g_iald (f := m.2.1 64) rfl (kl_64 _) (by decide) (by omega) (by omega) ?_
    refine c_sI (ps := [vI (m.2.1 64 (m.1 32))]) (r := []) (as := [vI (m.2.1 64 (m.1 32))]) (cs' := 0) (sl' := 0) rfl rfl rfl rfl rfl rfl (d_sort (d := d - 1) (q := q - (1 + 19)) (by omega) (by omega) hm (c := m.2.1 64 (m.1 32)) (show (-2147483648) ≤ m.2.1 64 (m.1 32) ∧ m.2.1 64 (m.1 32) ≤ 2147483647 by omega)) (by omega) (show 1 + 19 ≤ q by omega) (Nat.le_of_ble_eq_true rfl) (Nat.le_of_ble_eq_true rfl) rfl rfl rfl ?_
    rintro z7 m8 ⟨rfl, p10⟩
    refine g_iconst rfl ?_
    refine g_icmp_ne (by omega) (by omega) (by decide) (by decide) rfl ?_ ?_
    · intro kk11
      refine g_iconst rfl ?_
      refine g_zret rfl rfl (by omega) ?_
      have hN : NUM (m.2.1 64) (m.1 23) a b p = -1 ∨ NUM (m.2.1 64) (m.1 23) a b p = u := by
        left
        unfold NUM
        rw [← hs, ← hp]
        unfold NU
        (repeat' split) <;> omega
      exact ⟨_, _, rfl, hm, hf0, Or.inr ⟨rfl, hN, ⟨hpn, hs, hp, ha⟩⟩⟩
    · intro kk12
      refine g_aload_n (n := 0) rfl rfl ?_
      have h13 : 0 ≤ m.1 33 ∧ m.1 33 ≤ 200 := hm.1 33
      refine g_getf (v := vI (m.1 33)) rfl (kl_61 _) rfl ?_
      refine g_aload_n (n := 0) rfl rfl ?_
      refine g_getf (v := vI (m.1 32)) rfl (kl_61 _) rfl ?_
      refine g_isub rfl ?_
      refine g_iconst rfl ?_
      refine g_icmp_le (by omega) (by omega) (by decide) (by decide) rfl ?_ ?_
      · intro kk14
        refine g_iconst rfl ?_
        refine g_istore (n := 5) (lo' := [(0, vR 61), (1, vI k), (2, vI a), (3, vI b), (4, vI u)]) rfl rfl ?_
        refine g_aload_n (n := 0) rfl rfl ?_
        refine g_getf (v := vI (m.1 32)) rfl (kl_61 _) rfl ?_
        refine g_istore (n := 6) (lo' := [(5, vI 0), (0, vR 61), (1, vI k), (2, vI a), (3, vI b), (4, vI u)]) rfl rfl ?_
        refine g_iload (n := 6) rfl rfl ?_
        refine g_aload_n (n := 0) rfl rfl ?_
        refine g_getf (v := vI (m.1 33)) rfl (kl_61 _) rfl ?_
        refine g_icmp_ge (by omega) (by omega) (by omega) (by omega) rfl ?_ ?_
        · intro kk15
          exfalso; omega
        · intro kk16
          refine g_bipush (by decide) rfl ?_
          refine g_iload (n := 5) rfl rfl ?_
          refine g_imul rfl ?_
          refine g_aload_n (n := 0) rfl rfl ?_
          refine g_getf (v := vR 64) rfl (kl_61 _) rfl ?_
          refine g_iload (n := 6) rfl rfl ?_
          have h17 : 0 ≤ m.2.1 64 (m.1 32) ∧ m.2.1 64 (m.1 32) ≤ 255 := hm.2 64 (m.1 32) (by omega) (show m.1 32 < (200 : Int) by omega)
          refine g_iald (f := m.2.1 64) rfl (kl_64 _) (by decide) (by omega) (by omega) ?_
          refine g_iadd rfl ?_
          refine g_bipush (by decide) rfl ?_
          refine g_isub rfl ?_
          refine g_istore (n := 5) (lo' := [(6, vI (m.1 32)), (0, vR 61), (1, vI k), (2, vI a), (3, vI b), (4, vI u)]) rfl rfl ?_
          refine g_iinc (n := 6) (lo' := [(5, vI (((10 * 0) + m.2.1 64 (m.1 32)) - 48)), (0, vR 61), (1, vI k), (2, vI a), (3, vI b), (4, vI u)]) rfl rfl rfl ?_
          refine g_goto rfl ?_
          refine g_iload (n := 6) rfl rfl ?_
          refine g_aload_n (n := 0) rfl rfl ?_
          refine g_getf (v := vI (m.1 33)) rfl (kl_61 _) rfl ?_
          refine g_icmp_ge (by omega) (by omega) (by omega) (by omega) rfl ?_ ?_
          · intro kk18
            refine g_iload (n := 5) rfl rfl ?_
            refine g_i2l (by omega) (by omega) rfl ?_
            refine g_iload_n (n := 2) rfl rfl ?_
            refine g_i2l (by omega) (by omega) rfl ?_
            refine g_iload_n (n := 3) rfl rfl ?_
            refine g_i2l (by omega) (by omega) rfl ?_
            refine c_sI (ps := [vL b, vL a, vL (((10 * 0) + m.2.1 64 (m.1 32)) - 48)]) (r := []) (as := [vL (((10 * 0) + m.2.1 64 (m.1 32)) - 48), vL a, vL b]) (cs' := 0) (sl' := 0) rfl rfl rfl rfl rfl rfl (d_in (d := d - 1) (q := q - (6 + 19)) (by omega) (by omega) hm (a := (((10 * 0) + m.2.1 64 (m.1 32)) - 48)) (b := a) (c := b) (show (-9223372036854775808) ≤ (((10 * 0) + m.2.1 64 (m.1 32)) - 48) ∧ (((10 * 0) + m.2.1 64 (m.1 32)) - 48) ≤ 9223372036854775807 by omega) (show (-9223372036854775808) ≤ a ∧ a ≤ 9223372036854775807 by omega) (show (-9223372036854775808) ≤ b ∧ b ≤ 9223372036854775807 by omega)) (by omega) (show 6 + 19 ≤ q by omega) (Nat.le_of_ble_eq_true rfl) (Nat.le_of_ble_eq_true rfl) rfl rfl rfl ?_
            rintro z19 m20 ⟨rfl, p22⟩
            refine g_if_eq (by omega) (by omega) rfl ?_ ?_
            · intro kk23
              refine g_iconst rfl ?_
              refine g_zret rfl rfl (by omega) ?_
              have hN : NUM (m.2.1 64) (m.1 23) a b p = -1 ∨ NUM (m.2.1 64) (m.1 23) a b p = u := by
                unfold NUM
                rw [← hs, ← hp]
                unfold NU
                (repeat' split) <;> omega
              exact ⟨_, _, rfl, hm, hf0, Or.inr ⟨rfl, hN, ⟨hpn, hs, hp, ha⟩⟩⟩
            · intro kk24
              refine g_iload (n := 5) rfl rfl ?_
              refine g_iload (n := 4) rfl rfl ?_
              refine g_icmp_ne (by omega) (by omega) (by omega) (by omega) rfl ?_ ?_
              · intro kk25
                have hN : NUM (m.2.1 64) (m.1 23) a b p = (((10 * 0) + m.2.1 64 (m.1 32)) - 48) := by
                  unfold NUM
                  rw [← hs, ← hp]
                  unfold NU
                  (repeat' split) <;> omega
                refine g_aload_n (n := 0) rfl rfl ?_
                refine g_getf (v := vR 65) rfl (kl_61 _) rfl ?_
                refine g_iconst rfl ?_
                refine g_aload_n (n := 0) rfl rfl ?_
                refine g_getf (v := vI (m.1 24)) rfl (kl_61 _) rfl ?_
                refine g_imul rfl ?_
                refine g_iconst rfl ?_
                refine g_iadd rfl ?_
                refine g_iload_n (n := 1) rfl rfl ?_
                refine g_iadd rfl ?_
                refine g_iload (n := 5) rfl rfl ?_
                refine g_iAst (f := m.2.1 65) (m' := (kA m 65 (up (m.2.1 65) (((4 * m.1 24) + 1) + k) (((10 * 0) + m.2.1 64 (m.1 32)) - 48)))) rfl (kl_65 _) (by decide) (by omega) (by omega) (kA_65 _ _) ?_
                have hm26 : kI (kA m 65 (up (m.2.1 65) (((4 * m.1 24) + 1) + k) (((10 * 0) + m.2.1 64 (m.1 32)) - 48))) := kI_U hm 65 rfl (show ((-2147483648) : Int) ≤ (((10 * 0) + m.2.1 64 (m.1 32)) - 48) by omega) (show (((10 * 0) + m.2.1 64 (m.1 32)) - 48) ≤ (2147483647 : Int) by omega)
                have hf27 : fr [31, 32, 33] [65] m (kA m 65 (up (m.2.1 65) (((4 * m.1 24) + 1) + k) (((10 * 0) + m.2.1 64 (m.1 32)) - 48))) := fr_A hf0 65 _ rfl
                refine g_aload_n (n := 0) rfl rfl ?_
                have h28 : 0 ≤ m.1 31 ∧ m.1 31 ≤ 200 := hm.1 31
                have h29 : (kA m 65 (up (m.2.1 65) (((4 * m.1 24) + 1) + k) (((10 * 0) + m.2.1 64 (m.1 32)) - 48))).1 23 = m.1 23 := rfl
                have h30 : (kA m 65 (up (m.2.1 65) (((4 * m.1 24) + 1) + k) (((10 * 0) + m.2.1 64 (m.1 32)) - 48))).1 31 = m.1 31 := rfl
                refine c_vV (i := 61) (ps := []) (r := []) (as := [vR 61]) (cs' := 0) (sl' := 0) rfl rfl rfl rfl rfl rfl (kl_61 _) (d_token (d := d - 1) (q := q - (1 + 19)) (by omega) (by omega) hm26  (show m.1 31 ≤ m.1 23 by omega)) (by omega) (show 1 + 19 ≤ q by omega) (Nat.le_of_ble_eq_true rfl) (Nat.le_of_ble_eq_true rfl) rfl rfl rfl ?_
                rintro m32 ⟨hm34, hc35, p36, p37, p38⟩
                have hf39 : fr [31, 32, 33] [65] m m32 := fr_tr hf27 (fr_le hc35 rfl rfl)
                have h40 : m32.1 23 = m.1 23 := hc35.1 23 rfl
                have h41 : 0 ≤ m32.1 23 ∧ m32.1 23 ≤ 200 := hm34.1 23
                have h42 : m32.1 24 = m.1 24 := hc35.1 24 rfl
                have h43 : 0 ≤ m32.1 24 ∧ m32.1 24 ≤ 10 := hm34.1 24
                refine g_iconst rfl ?_
                refine g_zret rfl rfl (by omega) ?_
                have h65 : m32.2.1 65 = up (m.2.1 65) (4 * m.1 24 + 1 + k) (NUM (m.2.1 64) (m.1 23) a b p) := by
                  rw [hc35.2.1 65 rfl]
                  show up (m.2.1 65) (((4 * m.1 24) + 1) + k) (((10 * 0) + m.2.1 64 (m.1 32)) - 48) = _
                  rw [hN, show (((4 * m.1 24) + 1) + k) = 4 * m.1 24 + 1 + k by omega]
                have htk : tk m32 (EP (m.2.1 64) (m.1 23) p) := by
                  rw [← ha]
                  unfold tk
                  rw [hc35.2.1 64 rfl, hc35.1 23 rfl]
                  exact ⟨(show m.1 31 ≤ m.1 23 by omega), p36, p37, p38⟩
                exact ⟨_, _, rfl, hm34, hf39, Or.inl ⟨rfl, by omega, by omega, htk, h65⟩⟩
              · intro kk44
                refine g_iconst rfl ?_
                refine g_zret rfl rfl (by omega) ?_
                have hN : NUM (m.2.1 64) (m.1 23) a b p = -1 ∨ NUM (m.2.1 64) (m.1 23) a b p = u := by
                  unfold NUM
                  rw [← hs, ← hp]
                  unfold NU
                  (repeat' split) <;> omega
                exact ⟨_, _, rfl, hm, hf0, Or.inr ⟨rfl, hN, ⟨hpn, hs, hp, ha⟩⟩⟩
          · intro kk45
            refine g_bipush (by decide) rfl ?_
            refine g_iload (n := 5) rfl rfl ?_
            refine g_imul rfl ?_
            refine g_aload_n (n := 0) rfl rfl ?_
            refine g_getf (v := vR 64) rfl (kl_61 _) rfl ?_
            refine g_iload (n := 6) rfl rfl ?_
            have h46 : 0 ≤ m.2.1 64 (m.1 32 + 1) ∧ m.2.1 64 (m.1 32 + 1) ≤ 255 := hm.2 64 (m.1 32 + 1) (by omega) (show (m.1 32 + 1) < (200 : Int) by omega)
            refine g_iald (f := m.2.1 64) rfl (kl_64 _) (by decide) (by omega) (by omega) ?_
            refine g_iadd rfl ?_
            refine g_bipush (by decide) rfl ?_
            refine g_isub rfl ?_
            refine g_istore (n := 5) (lo' := [(6, vI (m.1 32 + 1)), (0, vR 61), (1, vI k), (2, vI a), (3, vI b), (4, vI u)]) rfl rfl ?_
            refine g_iinc (n := 6) (lo' := [(5, vI (((10 * (((10 * 0) + m.2.1 64 (m.1 32)) - 48)) + m.2.1 64 (m.1 32 + 1)) - 48)), (0, vR 61), (1, vI k), (2, vI a), (3, vI b), (4, vI u)]) rfl rfl rfl ?_
            refine g_goto rfl ?_
            refine g_iload (n := 6) rfl rfl ?_
            refine g_aload_n (n := 0) rfl rfl ?_
            refine g_getf (v := vI (m.1 33)) rfl (kl_61 _) rfl ?_
            refine g_icmp_ge (by omega) (by omega) (by omega) (by omega) rfl ?_ ?_
            · intro kk47
              refine g_iload (n := 5) rfl rfl ?_
              refine g_i2l (by omega) (by omega) rfl ?_
              refine g_iload_n (n := 2) rfl rfl ?_
              refine g_i2l (by omega) (by omega) rfl ?_
              refine g_iload_n (n := 3) rfl rfl ?_
              refine g_i2l (by omega) (by omega) rfl ?_
              refine c_sI (ps := [vL b, vL a, vL (((10 * (((10 * 0) + m.2.1 64 (m.1 32)) - 48)) + m.2.1 64 (m.1 32 + 1)) - 48)]) (r := []) (as := [vL (((10 * (((10 * 0) + m.2.1 64 (m.1 32)) - 48)) + m.2.1 64 (m.1 32 + 1)) - 48), vL a, vL b]) (cs' := 0) (sl' := 0) rfl rfl rfl rfl rfl rfl (d_in (d := d - 1) (q := q - (6 + 19)) (by omega) (by omega) hm (a := (((10 * (((10 * 0) + m.2.1 64 (m.1 32)) - 48)) + m.2.1 64 (m.1 32 + 1)) - 48)) (b := a) (c := b) (show (-9223372036854775808) ≤ (((10 * (((10 * 0) + m.2.1 64 (m.1 32)) - 48)) + m.2.1 64 (m.1 32 + 1)) - 48) ∧ (((10 * (((10 * 0) + m.2.1 64 (m.1 32)) - 48)) + m.2.1 64 (m.1 32 + 1)) - 48) ≤ 9223372036854775807 by omega) (show (-9223372036854775808) ≤ a ∧ a ≤ 9223372036854775807 by omega) (show (-9223372036854775808) ≤ b ∧ b ≤ 9223372036854775807 by omega)) (by omega) (show 6 + 19 ≤ q by omega) (Nat.le_of_ble_eq_true rfl) (Nat.le_of_ble_eq_true rfl) rfl rfl rfl ?_
              rintro z48 m49 ⟨rfl, p51⟩
              refine g_if_eq (by omega) (by omega) rfl ?_ ?_
              · intro kk52
                refine g_iconst rfl ?_
                refine g_zret rfl rfl (by omega) ?_
                have hN : NUM (m.2.1 64) (m.1 23) a b p = -1 ∨ NUM (m.2.1 64) (m.1 23) a b p = u := by
                  unfold NUM
                  rw [← hs, ← hp]
                  unfold NU
                  (repeat' split) <;> omega
                exact ⟨_, _, rfl, hm, hf0, Or.inr ⟨rfl, hN, ⟨hpn, hs, hp, ha⟩⟩⟩
              · intro kk53
                refine g_iload (n := 5) rfl rfl ?_
                refine g_iload (n := 4) rfl rfl ?_
                refine g_icmp_ne (by omega) (by omega) (by omega) (by omega) rfl ?_ ?_
                · intro kk54
                  have hN : NUM (m.2.1 64) (m.1 23) a b p = (((10 * (((10 * 0) + m.2.1 64 (m.1 32)) - 48)) + m.2.1 64 (m.1 32 + 1)) - 48) := by
                    unfold NUM
                    rw [← hs, ← hp]
                    unfold NU
                    (repeat' split) <;> omega
                  refine g_aload_n (n := 0) rfl rfl ?_
                  refine g_getf (v := vR 65) rfl (kl_61 _) rfl ?_
                  refine g_iconst rfl ?_
                  refine g_aload_n (n := 0) rfl rfl ?_
                  refine g_getf (v := vI (m.1 24)) rfl (kl_61 _) rfl ?_
                  refine g_imul rfl ?_
                  refine g_iconst rfl ?_
                  refine g_iadd rfl ?_
                  refine g_iload_n (n := 1) rfl rfl ?_
                  refine g_iadd rfl ?_
                  refine g_iload (n := 5) rfl rfl ?_
                  refine g_iAst (f := m.2.1 65) (m' := (kA m 65 (up (m.2.1 65) (((4 * m.1 24) + 1) + k) (((10 * (((10 * 0) + m.2.1 64 (m.1 32)) - 48)) + m.2.1 64 (m.1 32 + 1)) - 48)))) rfl (kl_65 _) (by decide) (by omega) (by omega) (kA_65 _ _) ?_
                  have hm55 : kI (kA m 65 (up (m.2.1 65) (((4 * m.1 24) + 1) + k) (((10 * (((10 * 0) + m.2.1 64 (m.1 32)) - 48)) + m.2.1 64 (m.1 32 + 1)) - 48))) := kI_U hm 65 rfl (show ((-2147483648) : Int) ≤ (((10 * (((10 * 0) + m.2.1 64 (m.1 32)) - 48)) + m.2.1 64 (m.1 32 + 1)) - 48) by omega) (show (((10 * (((10 * 0) + m.2.1 64 (m.1 32)) - 48)) + m.2.1 64 (m.1 32 + 1)) - 48) ≤ (2147483647 : Int) by omega)
                  have hf56 : fr [31, 32, 33] [65] m (kA m 65 (up (m.2.1 65) (((4 * m.1 24) + 1) + k) (((10 * (((10 * 0) + m.2.1 64 (m.1 32)) - 48)) + m.2.1 64 (m.1 32 + 1)) - 48))) := fr_A hf0 65 _ rfl
                  refine g_aload_n (n := 0) rfl rfl ?_
                  have h57 : 0 ≤ m.1 31 ∧ m.1 31 ≤ 200 := hm.1 31
                  have h58 : (kA m 65 (up (m.2.1 65) (((4 * m.1 24) + 1) + k) (((10 * (((10 * 0) + m.2.1 64 (m.1 32)) - 48)) + m.2.1 64 (m.1 32 + 1)) - 48))).1 23 = m.1 23 := rfl
                  have h59 : (kA m 65 (up (m.2.1 65) (((4 * m.1 24) + 1) + k) (((10 * (((10 * 0) + m.2.1 64 (m.1 32)) - 48)) + m.2.1 64 (m.1 32 + 1)) - 48))).1 31 = m.1 31 := rfl
                  refine c_vV (i := 61) (ps := []) (r := []) (as := [vR 61]) (cs' := 0) (sl' := 0) rfl rfl rfl rfl rfl rfl (kl_61 _) (d_token (d := d - 1) (q := q - (1 + 19)) (by omega) (by omega) hm55  (show m.1 31 ≤ m.1 23 by omega)) (by omega) (show 1 + 19 ≤ q by omega) (Nat.le_of_ble_eq_true rfl) (Nat.le_of_ble_eq_true rfl) rfl rfl rfl ?_
                  rintro m61 ⟨hm63, hc64, p65, p66, p67⟩
                  have hf68 : fr [31, 32, 33] [65] m m61 := fr_tr hf56 (fr_le hc64 rfl rfl)
                  have h69 : m61.1 23 = m.1 23 := hc64.1 23 rfl
                  have h70 : 0 ≤ m61.1 23 ∧ m61.1 23 ≤ 200 := hm63.1 23
                  have h71 : m61.1 24 = m.1 24 := hc64.1 24 rfl
                  have h72 : 0 ≤ m61.1 24 ∧ m61.1 24 ≤ 10 := hm63.1 24
                  refine g_iconst rfl ?_
                  refine g_zret rfl rfl (by omega) ?_
                  have h65 : m61.2.1 65 = up (m.2.1 65) (4 * m.1 24 + 1 + k) (NUM (m.2.1 64) (m.1 23) a b p) := by
                    rw [hc64.2.1 65 rfl]
                    show up (m.2.1 65) (((4 * m.1 24) + 1) + k) (((10 * (((10 * 0) + m.2.1 64 (m.1 32)) - 48)) + m.2.1 64 (m.1 32 + 1)) - 48) = _
                    rw [hN, show (((4 * m.1 24) + 1) + k) = 4 * m.1 24 + 1 + k by omega]
                  have htk : tk m61 (EP (m.2.1 64) (m.1 23) p) := by
                    rw [← ha]
                    unfold tk
                    rw [hc64.2.1 64 rfl, hc64.1 23 rfl]
                    exact ⟨(show m.1 31 ≤ m.1 23 by omega), p65, p66, p67⟩
                  exact ⟨_, _, rfl, hm63, hf68, Or.inl ⟨rfl, by omega, by omega, htk, h65⟩⟩
                · intro kk73
                  refine g_iconst rfl ?_
                  refine g_zret rfl rfl (by omega) ?_
                  have hN : NUM (m.2.1 64) (m.1 23) a b p = -1 ∨ NUM (m.2.1 64) (m.1 23) a b p = u := by
                    unfold NUM
                    rw [← hs, ← hp]
                    unfold NU
                    (repeat' split) <;> omega
                  exact ⟨_, _, rfl, hm, hf0, Or.inr ⟨rfl, hN, ⟨hpn, hs, hp, ha⟩⟩⟩
            · intro kk74
              exfalso; omega
      · intro kk75
        refine g_iconst rfl ?_
        refine g_zret rfl rfl (by omega) ?_
        have hN : NUM (m.2.1 64) (m.1 23) a b p = -1 ∨ NUM (m.2.1 64) (m.1 23) a b p = u := by
          left
          unfold NUM
          rw [← hs, ← hp]
          unfold NU
          (repeat' split) <;> omega
        exact ⟨_, _, rfl, hm, hf0, Or.inr ⟨rfl, hN, ⟨hpn, hs, hp, ha⟩⟩⟩
theorem d_readsHungry {V : cg_V} {d q : Nat} (hd : 3 ≤ d) (hq : 66 ≤ q) {m : kM} (hm : kI m) {p : Int} (ht : tk m p) (hr9 : m.1 24 ≤ 9) (hR : 2 ≤ m.1 34) (hp4 : pcn (m.1 36) ≤ 4) : cg_S V d q mX10_readsHungry [vR 61] (kl m) (R_I (fun z m' => (kI m') ∧ (fr [31, 32, 33, 36] [65] m m') ∧ ((z = 1 ∧ NUM (m.2.1 64) (m.1 23) 0 (m.1 34 - 1) p ≠ -1 ∧ hb (m.1 36) (NUM (m.2.1 64) (m.1 23) 0 (m.1 34 - 1) p) ≠ 1 ∧ pcn (m.1 36) < 4 ∧ tk m' (EP (m.2.1 64) (m.1 23) p) ∧ m'.1 36 = stb (m.1 36) (NUM (m.2.1 64) (m.1 23) 0 (m.1 34 - 1) p) ∧ m'.2.1 65 = up (m.2.1 65) (4 * m.1 24 + 1) (NUM (m.2.1 64) (m.1 23) 0 (m.1 34 - 1) p)) ∨ (z = 0 ∧ (NUM (m.2.1 64) (m.1 23) 0 (m.1 34 - 1) p = -1 ∨ hb (m.1 36) (NUM (m.2.1 64) (m.1 23) 0 (m.1 34 - 1) p) = 1 ∨ 4 ≤ pcn (m.1 36)) ∧ m'.1 32 = SK (m.2.1 64) (m.1 23) p)))) := by
  have hf0 : fr [31, 32, 33, 36] [65] m m := fr_rf m
  refine cg_of (List.mem_of_getElem? (show ae_MT[130]? = some mX10_readsHungry from rfl)) (Nat.le_of_ble_eq_true rfl) ?_
  show cg_G V mX10_readsHungry d q _ 0 [(0, vR 61)] [] (kl m) 0 0
  have h1 : 0 ≤ m.1 23 ∧ m.1 23 ≤ 200 := hm.1 23
  have h2 : 0 ≤ m.1 24 ∧ m.1 24 ≤ 10 := hm.1 24
  have h3 : 0 ≤ m.1 34 ∧ m.1 34 ≤ 6 := hm.1 34
  have h4 : 0 ≤ m.1 36 ∧ m.1 36 ≤ 63 := hm.1 36
  have hs := ht.2.1
  refine g_aload_n (n := 0) rfl rfl ?_
  have h5 : 0 ≤ m.1 32 ∧ m.1 32 ≤ 200 := hm.1 32
  refine g_getf (v := vI (m.1 32)) rfl (kl_61 _) rfl ?_
  refine g_istore_n (n := 1) (lo' := [(0, vR 61)]) rfl rfl ?_
  refine g_aload_n (n := 0) rfl rfl ?_
  have h6 : 0 ≤ m.1 31 ∧ m.1 31 ≤ 200 := hm.1 31
  refine g_getf (v := vI (m.1 31)) rfl (kl_61 _) rfl ?_
  refine g_istore_n (n := 2) (lo' := [(1, vI (m.1 32)), (0, vR 61)]) rfl rfl ?_
  refine g_aload_n (n := 0) rfl rfl ?_
  have h7 : 0 ≤ m.1 33 ∧ m.1 33 ≤ 200 := hm.1 33
  refine g_getf (v := vI (m.1 33)) rfl (kl_61 _) rfl ?_
  refine g_istore_n (n := 3) (lo' := [(2, vI (m.1 31)), (1, vI (m.1 32)), (0, vR 61)]) rfl rfl ?_
  refine g_aload_n (n := 0) rfl rfl ?_
  refine g_iconst rfl ?_
  refine g_iconst rfl ?_
  refine g_aload_n (n := 0) rfl rfl ?_
  refine g_getf (v := vI (m.1 34)) rfl (kl_61 _) rfl ?_
  refine g_iconst rfl ?_
  refine g_isub rfl ?_
  refine g_iconst rfl ?_
  refine c_vI (i := 61) (ps := [vI (-1), vI (m.1 34 - 1), vI 0, vI 0]) (r := []) (as := [vR 61, vI 0, vI 0, vI (m.1 34 - 1), vI (-1)]) (cs' := 0) (sl' := 0) rfl rfl rfl rfl rfl rfl (kl_61 _) (d_reads (d := d - 1) (q := q - (7 + 19)) (by omega) (by omega) hm (k := 0) (a := 0) (b := (m.1 34 - 1)) (u := (-1)) (show 0 ≤ 0 ∧ 0 ≤ 2 by omega) (show 0 ≤ 0 ∧ 0 ≤ 2 by omega) (show 0 ≤ (m.1 34 - 1) ∧ (m.1 34 - 1) ≤ 6 by omega) (show (-2147483648) ≤ (-1) ∧ (-1) ≤ 2147483647 by omega) ht hr9) (by omega) (show 7 + 19 ≤ q by omega) (Nat.le_of_ble_eq_true rfl) (Nat.le_of_ble_eq_true rfl) rfl rfl rfl ?_
  rintro z8 m9 ⟨hm11, hc12, p13⟩
  have hf14 : fr [31, 32, 33, 36] [65] m m9 := fr_tr hf0 (fr_le hc12 rfl rfl)
  have h15 : m9.1 23 = m.1 23 := hc12.1 23 rfl
  have h16 : 0 ≤ m9.1 23 ∧ m9.1 23 ≤ 200 := hm11.1 23
  have h17 : m9.1 24 = m.1 24 := hc12.1 24 rfl
  have h18 : 0 ≤ m9.1 24 ∧ m9.1 24 ≤ 10 := hm11.1 24
  have h19 : m9.1 34 = m.1 34 := hc12.1 34 rfl
  have h20 : 0 ≤ m9.1 34 ∧ m9.1 34 ≤ 6 := hm11.1 34
  have h21 : m9.1 36 = m.1 36 := hc12.1 36 rfl
  have h22 : 0 ≤ m9.1 36 ∧ m9.1 36 ≤ 63 := hm11.1 36
  refine g_if_ne (by omega) (by omega) rfl ?_ ?_
  · intro kk23
    obtain ⟨-, k1, k2, k3, k4⟩ := p13.resolve_right (fun h => by omega)
    have e24 : m9.1 24 = m.1 24 := hc12.1 24 rfl
    have e36 : m9.1 36 = m.1 36 := hc12.1 36 rfl
    have hNr := NUM_rng (t := m.2.1 64) (n := m.1 23) (lo := 0) (hi := m.1 34 - 1) (p := p)
    refine g_aload_n (n := 0) rfl rfl ?_
    refine g_getf (v := vR 65) rfl (kl_61 _) rfl ?_
    refine g_iconst rfl ?_
    refine g_aload_n (n := 0) rfl rfl ?_
    refine g_getf (v := vI (m9.1 24)) rfl (kl_61 _) rfl ?_
    refine g_imul rfl ?_
    refine g_iconst rfl ?_
    refine g_iadd rfl ?_
    have h24 : (-2147483648) ≤ m9.2.1 65 ((4 * m9.1 24) + 1) ∧ m9.2.1 65 ((4 * m9.1 24) + 1) ≤ 2147483647 := hm11.2 65 ((4 * m9.1 24) + 1) (by omega) (show ((4 * m9.1 24) + 1) < (40 : Int) by omega)
    refine g_iald (f := m9.2.1 65) rfl (kl_65 _) (by decide) (by omega) (by omega) ?_
    refine g_istore (n := 4) (lo' := [(3, vI (m.1 33)), (2, vI (m.1 31)), (1, vI (m.1 32)), (0, vR 61)]) rfl rfl ?_
    have er : m9.2.1 65 ((4 * m9.1 24) + 1) = NUM (m.2.1 64) (m.1 23) 0 (m.1 34 - 1) p := by
      rw [k4, show (4 * m9.1 24) + 1 = 4 * m.1 24 + 1 + 0 by omega, up_same]
    refine g_aload_n (n := 0) rfl rfl ?_
    refine g_getf (v := vI (m9.1 36)) rfl (kl_61 _) rfl ?_
    refine g_iload (n := 4) rfl rfl ?_
    refine c_sI (ps := [vI (m9.2.1 65 ((4 * m9.1 24) + 1)), vI (m9.1 36)]) (r := []) (as := [vI (m9.1 36), vI (m9.2.1 65 ((4 * m9.1 24) + 1))]) (cs' := 0) (sl' := 0) rfl rfl rfl rfl rfl rfl (d_has (d := d - 1) (q := q - (2 + 19)) (by omega) (by omega) hm11 (s := m9.1 36) (k := m9.2.1 65 ((4 * m9.1 24) + 1)) (show (-2147483648) ≤ m9.1 36 ∧ m9.1 36 ≤ 2147483647 by omega) (show 0 ≤ m9.2.1 65 ((4 * m9.1 24) + 1) ∧ m9.2.1 65 ((4 * m9.1 24) + 1) ≤ 5 by omega)) (by omega) (show 2 + 19 ≤ q by omega) (Nat.le_of_ble_eq_true rfl) (Nat.le_of_ble_eq_true rfl) rfl rfl rfl ?_
    rintro z25 m26 ⟨rfl, p28, p29, p30⟩
    have h31 : z25 = (hb (m9.1 36) (m9.2.1 65 ((4 * m9.1 24) + 1))) := p28
    subst h31
    refine g_if_ne (by omega) (by omega) rfl ?_ ?_
    · intro kk32
      refine g_aload_n (n := 0) rfl rfl ?_
      refine g_iload_n (n := 1) rfl rfl ?_
      refine g_putF (m' := (kF m9 32 (m.1 32))) rfl (kl_61 _) rfl rfl rfl rfl (kF_32 _ _) ?_
      have hm33 : kI (kF m9 32 (m.1 32)) := kI_F hm11 32 (show (0 : Int) ≤ m.1 32 by omega) (show m.1 32 ≤ (200 : Int) by omega)
      have hf34 : fr [31, 32, 33, 36] [65] m (kF m9 32 (m.1 32)) := fr_F hf14 32 _ rfl
      refine g_aload_n (n := 0) rfl rfl ?_
      refine g_iload_n (n := 2) rfl rfl ?_
      refine g_putF (m' := (kF (kF m9 32 (m.1 32)) 31 (m.1 31))) rfl (kl_61 _) rfl rfl rfl rfl (kF_31 _ _) ?_
      have hm35 : kI (kF (kF m9 32 (m.1 32)) 31 (m.1 31)) := kI_F hm33 31 (show (0 : Int) ≤ m.1 31 by omega) (show m.1 31 ≤ (200 : Int) by omega)
      have hf36 : fr [31, 32, 33, 36] [65] m (kF (kF m9 32 (m.1 32)) 31 (m.1 31)) := fr_F hf34 31 _ rfl
      refine g_aload_n (n := 0) rfl rfl ?_
      refine g_iload_n (n := 3) rfl rfl ?_
      refine g_putF (m' := (kF (kF (kF m9 32 (m.1 32)) 31 (m.1 31)) 33 (m.1 33))) rfl (kl_61 _) rfl rfl rfl rfl (kF_33 _ _) ?_
      have hm37 : kI (kF (kF (kF m9 32 (m.1 32)) 31 (m.1 31)) 33 (m.1 33)) := kI_F hm35 33 (show (0 : Int) ≤ m.1 33 by omega) (show m.1 33 ≤ (200 : Int) by omega)
      have hf38 : fr [31, 32, 33, 36] [65] m (kF (kF (kF m9 32 (m.1 32)) 31 (m.1 31)) 33 (m.1 33)) := fr_F hf36 33 _ rfl
      refine g_iconst rfl ?_
      refine g_zret rfl rfl (by omega) ?_
      exact ⟨_, _, rfl, hm37, hf38, Or.inr ⟨rfl, by rw [← er, ← e36]; unfold pcn; omega, hs⟩⟩
    · intro kk39
      refine g_aload_n (n := 0) rfl rfl ?_
      refine g_getf (v := vI (m9.1 36)) rfl (kl_61 _) rfl ?_
      refine c_sI (ps := [vI (m9.1 36)]) (r := []) (as := [vI (m9.1 36)]) (cs' := 0) (sl' := 0) rfl rfl rfl rfl rfl rfl (d_bits (d := d - 1) (q := q - (3 + 19)) (by omega) (by omega) hm11 (s := m9.1 36) (show (-2147483648) ≤ m9.1 36 ∧ m9.1 36 ≤ 2147483647 by omega)) (by omega) (show 3 + 19 ≤ q by omega) (Nat.le_of_ble_eq_true rfl) (Nat.le_of_ble_eq_true rfl) rfl rfl rfl ?_
      rintro z40 m41 ⟨rfl, p43⟩
      refine g_iconst rfl ?_
      refine g_icmp_ne (by omega) (by omega) (by decide) (by decide) rfl ?_ ?_
      · intro kk44
        refine g_aload_n (n := 0) rfl rfl ?_
        refine g_dup rfl rfl ?_
        refine g_getf (v := vI (m9.1 36)) rfl (kl_61 _) rfl ?_
        refine g_iconst rfl ?_
        refine g_iload (n := 4) rfl rfl ?_
        refine g_ishl rfl ?_
        intro z45 h46 h47 h48
        refine g_ior rfl ?_
        intro z50 h51 h52 h53
        have h54 : z50 = stb (m9.1 36) (m9.2.1 65 ((4 * m9.1 24) + 1)) := b_stb h46 h51 (by omega) (by omega) (by omega) (by omega)
        have h55 := b_stb_rng (u := m9.1 36) (r := m9.2.1 65 ((4 * m9.1 24) + 1)) (by omega) (by omega) (by omega) (by omega)
        refine g_putF (m' := (kF m9 36 z50)) rfl (kl_61 _) rfl rfl rfl rfl (kF_36 _ _) ?_
        have hm56 : kI (kF m9 36 z50) := kI_F hm11 36 (show (0 : Int) ≤ z50 by omega) (show z50 ≤ (63 : Int) by omega)
        have hf57 : fr [31, 32, 33, 36] [65] m (kF m9 36 z50) := fr_F hf14 36 _ rfl
        refine g_iconst rfl ?_
        refine g_zret rfl rfl (by omega) ?_
        exact ⟨_, _, rfl, hm56, hf57, Or.inl ⟨rfl, by omega, by rw [← er, ← e36]; omega, by rw [← e36]; rw [← e36] at hp4; unfold pcn at hp4 ⊢; omega, k3, (show z50 = stb (m.1 36) _ by rw [← er, ← e36]; omega), k4.trans (by rw [show 4 * m.1 24 + 1 + 0 = 4 * m.1 24 + 1 by omega])⟩⟩
      · intro kk58
        refine g_aload_n (n := 0) rfl rfl ?_
        refine g_iload_n (n := 1) rfl rfl ?_
        refine g_putF (m' := (kF m9 32 (m.1 32))) rfl (kl_61 _) rfl rfl rfl rfl (kF_32 _ _) ?_
        have hm59 : kI (kF m9 32 (m.1 32)) := kI_F hm11 32 (show (0 : Int) ≤ m.1 32 by omega) (show m.1 32 ≤ (200 : Int) by omega)
        have hf60 : fr [31, 32, 33, 36] [65] m (kF m9 32 (m.1 32)) := fr_F hf14 32 _ rfl
        refine g_aload_n (n := 0) rfl rfl ?_
        refine g_iload_n (n := 2) rfl rfl ?_
        refine g_putF (m' := (kF (kF m9 32 (m.1 32)) 31 (m.1 31))) rfl (kl_61 _) rfl rfl rfl rfl (kF_31 _ _) ?_
        have hm61 : kI (kF (kF m9 32 (m.1 32)) 31 (m.1 31)) := kI_F hm59 31 (show (0 : Int) ≤ m.1 31 by omega) (show m.1 31 ≤ (200 : Int) by omega)
        have hf62 : fr [31, 32, 33, 36] [65] m (kF (kF m9 32 (m.1 32)) 31 (m.1 31)) := fr_F hf60 31 _ rfl
        refine g_aload_n (n := 0) rfl rfl ?_
        refine g_iload_n (n := 3) rfl rfl ?_
        refine g_putF (m' := (kF (kF (kF m9 32 (m.1 32)) 31 (m.1 31)) 33 (m.1 33))) rfl (kl_61 _) rfl rfl rfl rfl (kF_33 _ _) ?_
        have hm63 : kI (kF (kF (kF m9 32 (m.1 32)) 31 (m.1 31)) 33 (m.1 33)) := kI_F hm61 33 (show (0 : Int) ≤ m.1 33 by omega) (show m.1 33 ≤ (200 : Int) by omega)
        have hf64 : fr [31, 32, 33, 36] [65] m (kF (kF (kF m9 32 (m.1 32)) 31 (m.1 31)) 33 (m.1 33)) := fr_F hf62 33 _ rfl
        refine g_iconst rfl ?_
        refine g_zret rfl rfl (by omega) ?_
        exact ⟨_, _, rfl, hm63, hf64, Or.inr ⟨rfl, by rw [← er, ← e36]; unfold pcn; omega, hs⟩⟩
  · intro kk65
    refine g_iconst rfl ?_
    refine g_zret rfl rfl (by omega) ?_
    have k1 := (p13.resolve_left (fun h => by omega)).2
    exact ⟨_, _, rfl, hm11, hf14, Or.inr ⟨rfl, by rcases k1.1 with h | h <;> omega, k1.2.2.1.trans (by rw [hc12.2.1 64 rfl, hc12.1 23 rfl])⟩⟩
