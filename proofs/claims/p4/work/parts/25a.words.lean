/-! ===== contracts: the model, tokens and words ===== -/
theorem d_write {V : cg_V} {d q : Nat} (hd : 1 ≤ d) (hq : 25 ≤ q) {m : kM} (hm : kI m) {x n : Int} (h_x : (-9223372036854775808) ≤ x ∧ x ≤ 9223372036854775807) (h_n : (-2147483648) ≤ n ∧ n ≤ 2147483647) : cg_S V d q mX10_write [vR 61, vL x, vI n] (kl m) (R_I (fun z m' => (kI m') ∧ (fr [23] [64] m m') ∧ ((1 ≤ n ∧ n ≤ 8 ∧ m.1 23 + n ≤ 200 ∧ m'.1 23 = m.1 23 + n ∧ m'.2.1 64 = WR (m.2.1 64) (m.1 23) n x ∧ z = m.1 23 + n) ∨ (((n < 1 ∨ 8 < n) ∧ z = -3 ∨ (1 ≤ n ∧ n ≤ 8 ∧ 200 < m.1 23 + n) ∧ z = -5) ∧ m'.1 23 = m.1 23 ∧ m'.2.1 64 = m.2.1 64)))) := by
  have hf0 : fr [23] [64] m m := fr_rf m
  refine cg_of (List.mem_of_getElem? (show ae_MT[122]? = some mX10_write from rfl)) (Nat.le_of_ble_eq_true rfl) ?_
  show cg_G V mX10_write d q _ 0 [(0, vR 61), (1, vL x), (3, vI n)] [] (kl m) 0 0
  have h1 : 0 ≤ m.1 23 ∧ m.1 23 ≤ 200 := hm.1 23
  refine g_iload_n (n := 3) rfl rfl ?_
  refine g_i2l (by omega) (by omega) rfl ?_
  refine g_lconst (x := 1) (by decide) rfl ?_
  refine g_ldc2 (x := 8) (by decide) rfl ?_
  refine c_sI (ps := [vL 8, vL 1, vL n]) (r := []) (as := [vL n, vL 1, vL 8]) (cs' := 0) (sl' := 0) rfl rfl rfl rfl rfl rfl (d_in (d := d - 1) (q := q - (6 + 19)) (by omega) (by omega) hm (a := n) (b := 1) (c := 8) (show (-9223372036854775808) ≤ n ∧ n ≤ 9223372036854775807 by omega) (show (-9223372036854775808) ≤ 1 ∧ 1 ≤ 9223372036854775807 by omega) (show (-9223372036854775808) ≤ 8 ∧ 8 ≤ 9223372036854775807 by omega)) (by omega) (show 6 + 19 ≤ q by omega) (Nat.le_of_ble_eq_true rfl) (Nat.le_of_ble_eq_true rfl) rfl rfl rfl ?_
  rintro z2 m3 ⟨rfl, p5⟩
  refine g_if_ne (by omega) (by omega) rfl ?_ ?_
  · intro kk6
    refine g_aload_n (n := 0) rfl rfl ?_
    refine g_getf (v := vI (m.1 23)) rfl (kl_61 _) rfl ?_
    refine g_iload_n (n := 3) rfl rfl ?_
    refine g_iadd rfl ?_
    refine g_nrm ?_
    intro z7 h8 h9 h10 h11
    refine g_sipush (by decide) rfl ?_
    refine g_icmp_le (by omega) (by omega) (by decide) (by decide) rfl ?_ ?_
    · intro kk12
      refine g_iconst rfl ?_
      refine g_istore (n := 4) (lo' := [(0, vR 61), (1, vL x), (3, vI n)]) rfl rfl ?_
      have L33_1 : ∀ (n33_1 : Nat) (i_1 : Int) (mL1 : kM), (kI mL1) → (fr [23] [64] m mL1) → (0 ≤ i_1 ∧ i_1 ≤ 8) → (i_1 ≤ n) → (mL1.1 23 = m.1 23 + i_1) → (mL1.2.1 64 = WR (m.2.1 64) (m.1 23) i_1 x) → ((8 - i_1).toNat) = n33_1 → cg_G V mX10_write d q (R_I (fun z m' => (kI m') ∧ (fr [23] [64] m m') ∧ ((1 ≤ n ∧ n ≤ 8 ∧ m.1 23 + n ≤ 200 ∧ m'.1 23 = m.1 23 + n ∧ m'.2.1 64 = WR (m.2.1 64) (m.1 23) n x ∧ z = m.1 23 + n) ∨ (((n < 1 ∨ 8 < n) ∧ z = -3 ∨ (1 ≤ n ∧ n ≤ 8 ∧ 200 < m.1 23 + n) ∧ z = -5) ∧ m'.1 23 = m.1 23 ∧ m'.2.1 64 = m.2.1 64)))) 33 [(4, vI i_1), (0, vR 61), (1, vL x), (3, vI n)] [] (kl mL1) 0 0 := by
        intro n33_1
        induction n33_1 using Nat.strongRecOn with
        | _ n33_1 ih33_1 =>
          intro i_1 mL1 hmL1 hfL1 i13 iN iL iW q14
          refine g_iload (n := 4) rfl rfl ?_
          refine g_iload_n (n := 3) rfl rfl ?_
          refine g_icmp_ge (by omega) (by omega) (by omega) (by omega) rfl ?_ ?_
          · intro kk15
            refine g_aload_n (n := 0) rfl rfl ?_
            have h16 : 0 ≤ mL1.1 23 ∧ mL1.1 23 ≤ 200 := hmL1.1 23
            refine g_getf (v := vI (mL1.1 23)) rfl (kl_61 _) rfl ?_
            refine g_iret rfl rfl ?_
            exact ⟨_, _, rfl, hmL1, hfL1, Or.inl ⟨by omega, by omega, by omega, by omega, (by rw [iW, show i_1 = n by omega]), by omega⟩⟩
          · intro kk17
            refine g_aload_n (n := 0) rfl rfl ?_
            refine g_getf (v := vR 64) rfl (kl_61 _) rfl ?_
            refine g_aload_n (n := 0) rfl rfl ?_
            have h18 : 0 ≤ mL1.1 23 ∧ mL1.1 23 ≤ 200 := hmL1.1 23
            refine g_getf (v := vI (mL1.1 23)) rfl (kl_61 _) rfl ?_
            refine g_lload_n (n := 1) rfl rfl ?_
            refine g_bipush (by decide) rfl ?_
            refine g_iload (n := 4) rfl rfl ?_
            refine g_imul rfl ?_
            refine g_lshr rfl ?_
            intro z19 h20 h21 h22
            have h23 : z19 = x / 2 ^ (Int.toNat ((8 * i_1))) := b_lshr h20 (by omega) (by omega) (by omega) (by omega)
            refine g_ldc2 (x := 255) (by decide) rfl ?_
            refine g_land rfl ?_
            intro z24 h25 h26 h27
            have h28 : z24 = z19 % 256 := b_lmodN (k := 8) h25 (by decide) (by decide) (by decide)
            refine g_l2i rfl ?_
            refine g_iAst (f := mL1.2.1 64) (m' := (kA mL1 64 (up (mL1.2.1 64) (mL1.1 23) z24))) rfl (kl_64 _) (by decide) (by omega) (by omega) (kA_64 _ _) ?_
            have hm29 : kI (kA mL1 64 (up (mL1.2.1 64) (mL1.1 23) z24)) := kI_U hmL1 64 rfl (show (0 : Int) ≤ z24 by omega) (show z24 ≤ (255 : Int) by omega)
            have hf30 : fr [23] [64] m (kA mL1 64 (up (mL1.2.1 64) (mL1.1 23) z24)) := fr_A hfL1 64 _ rfl
            refine g_aload_n (n := 0) rfl rfl ?_
            refine g_dup rfl rfl ?_
            refine g_getf (v := vI (mL1.1 23)) rfl (kl_61 _) rfl ?_
            refine g_iconst rfl ?_
            refine g_iadd rfl ?_
            refine g_putF (m' := (kF (kA mL1 64 (up (mL1.2.1 64) (mL1.1 23) z24)) 23 (mL1.1 23 + 1))) rfl (kl_61 _) rfl rfl rfl rfl (kF_23 _ _) ?_
            have hm31 : kI (kF (kA mL1 64 (up (mL1.2.1 64) (mL1.1 23) z24)) 23 (mL1.1 23 + 1)) := kI_F hm29 23 (show (0 : Int) ≤ (mL1.1 23 + 1) by omega) (show (mL1.1 23 + 1) ≤ (200 : Int) by omega)
            have hf32 : fr [23] [64] m (kF (kA mL1 64 (up (mL1.2.1 64) (mL1.1 23) z24)) 23 (mL1.1 23 + 1)) := fr_F hf30 23 _ rfl
            have hWn : (kF (kA mL1 64 (up (mL1.2.1 64) (mL1.1 23) z24)) 23 (mL1.1 23 + 1)).2.1 64 = WR (m.2.1 64) (m.1 23) (i_1 + 1) x := by
              show up (mL1.2.1 64) (mL1.1 23) z24 = _
              rw [iW, show mL1.1 23 = m.1 23 + i_1 by omega]
              refine WR_up (by omega) ?_
              show z24 = x / 2 ^ (Int.toNat (8 * i_1)) % 256
              omega
            refine g_iinc (n := 4) (lo' := [(0, vR 61), (1, vL x), (3, vI n)]) rfl rfl rfl ?_
            refine g_goto rfl ?_
            have h33 : (kF (kA mL1 64 (up (mL1.2.1 64) (mL1.1 23) z24)) 23 (mL1.1 23 + 1)).1 23 = (mL1.1 23 + 1) := rfl
            exact ih33_1 _ (by omega) (i_1 + 1) (kF (kA mL1 64 (up (mL1.2.1 64) (mL1.1 23) z24)) 23 (mL1.1 23 + 1)) hm31 hf32 (by omega) (by omega) (by omega) hWn rfl
      exact L33_1 _ 0 m hm hf0 (by omega) (by omega) (by omega) (WR_0 _ _ _).symm rfl
    · intro kk34
      refine g_bipush (by decide) rfl ?_
      refine g_iret rfl rfl ?_
      exact ⟨_, _, rfl, hm, hf0, Or.inr ⟨Or.inr ⟨by omega, rfl⟩, rfl, rfl⟩⟩
  · intro kk35
    refine g_bipush (by decide) rfl ?_
    refine g_iret rfl rfl ?_
    exact ⟨_, _, rfl, hm, hf0, Or.inr ⟨Or.inl ⟨by omega, rfl⟩, rfl, rfl⟩⟩
theorem d_token {V : cg_V} {d q : Nat} (hd : 1 ≤ d) (hq : 20 ≤ q) {m : kM} (hm : kI m) (he : m.1 31 ≤ m.1 23) : cg_S V d q mX10_token [vR 61] (kl m) (R_V (fun m' => (kI m') ∧ (fr [31, 32, 33] [] m m') ∧ (m'.1 32 = (SK (m.2.1 64) (m.1 23) (m.1 31))) ∧ (m'.1 33 = EP (m.2.1 64) (m.1 23) (m.1 31)) ∧ (m'.1 31 = EP (m.2.1 64) (m.1 23) (m.1 31)))) := by
  have hf0 : fr [31, 32, 33] [] m m := fr_rf m
  refine cg_of (List.mem_of_getElem? (show ae_MT[125]? = some mX10_token from rfl)) (Nat.le_of_ble_eq_true rfl) ?_
  show cg_G V mX10_token d q _ 0 [(0, vR 61)] [] (kl m) 0 0
  have h1 : 0 ≤ m.1 23 ∧ m.1 23 ≤ 200 := hm.1 23
  have h2 : 0 ≤ m.1 31 ∧ m.1 31 ≤ 200 := hm.1 31
  have hsr := SK_rng (t := m.2.1 64) he
  have L0_1 : ∀ (n0_1 : Nat)  (mL1 : kM), (kI mL1) → (fr [31, 32, 33] [] m mL1) → (SK (m.2.1 64) (m.1 23) (mL1.1 31) = (SK (m.2.1 64) (m.1 23) (m.1 31))) → (mL1.1 31 ≤ m.1 23) → ((200 - mL1.1 31).toNat) = n0_1 → cg_G V mX10_token d q (R_V (fun m' => (kI m') ∧ (fr [31, 32, 33] [] m m') ∧ (m'.1 32 = (SK (m.2.1 64) (m.1 23) (m.1 31))) ∧ (m'.1 33 = EP (m.2.1 64) (m.1 23) (m.1 31)) ∧ (m'.1 31 = EP (m.2.1 64) (m.1 23) (m.1 31)))) 0 [(0, vR 61)] [] (kl mL1) 0 0 := by
    intro n0_1
    induction n0_1 using Nat.strongRecOn with
    | _ n0_1 ih0_1 =>
      intro mL1 hmL1 hfL1 iS iL q3
      refine g_aload_n (n := 0) rfl rfl ?_
      have h4 : 0 ≤ mL1.1 31 ∧ mL1.1 31 ≤ 200 := hmL1.1 31
      refine g_getf (v := vI (mL1.1 31)) rfl (kl_61 _) rfl ?_
      refine g_aload_n (n := 0) rfl rfl ?_
      have h5 : 0 ≤ mL1.1 23 ∧ mL1.1 23 ≤ 200 := hmL1.1 23
      have h6 : mL1.1 23 = m.1 23 := hfL1.1 23 rfl
      refine g_getf (v := vI (mL1.1 23)) rfl (kl_61 _) rfl ?_
      refine g_icmp_ge (by omega) (by omega) (by omega) (by omega) rfl ?_ ?_
      · intro kk7
        have hs0 : mL1.1 31 = (SK (m.2.1 64) (m.1 23) (m.1 31)) := by rw [← iS]; exact (SK_out (by omega)).symm
        have hs3 := srt_sp (m.2.1 64 (SK (m.2.1 64) (m.1 23) (m.1 31)))
        refine g_aload_n (n := 0) rfl rfl ?_
        refine g_aload_n (n := 0) rfl rfl ?_
        refine g_getf (v := vI (mL1.1 31)) rfl (kl_61 _) rfl ?_
        refine g_putF (m' := (kF mL1 32 (mL1.1 31))) rfl (kl_61 _) rfl rfl rfl rfl (kF_32 _ _) ?_
        have hm8 : kI (kF mL1 32 (mL1.1 31)) := kI_F hmL1 32 (show (0 : Int) ≤ mL1.1 31 by omega) (show mL1.1 31 ≤ (200 : Int) by omega)
        have hf9 : fr [31, 32, 33] [] m (kF mL1 32 (mL1.1 31)) := fr_F hfL1 32 _ rfl
        refine g_aload_n (n := 0) rfl rfl ?_
        refine g_dup rfl rfl ?_
        refine g_getf (v := vI (mL1.1 31)) rfl (kl_61 _) rfl ?_
        refine g_aload_n (n := 0) rfl rfl ?_
        refine g_getf (v := vI (mL1.1 31)) rfl (kl_61 _) rfl ?_
        refine g_aload_n (n := 0) rfl rfl ?_
        refine g_getf (v := vI (mL1.1 23)) rfl (kl_61 _) rfl ?_
        refine g_icmp_ge (by omega) (by omega) (by omega) (by omega) rfl ?_ ?_
        · intro kk10
          refine g_iconst rfl ?_
          refine g_iadd rfl ?_
          refine g_putF (m' := (kF (kF mL1 32 (mL1.1 31)) 31 (mL1.1 31 + 0))) rfl (kl_61 _) rfl rfl rfl rfl (kF_31 _ _) ?_
          have hm11 : kI (kF (kF mL1 32 (mL1.1 31)) 31 (mL1.1 31 + 0)) := kI_F hm8 31 (show (0 : Int) ≤ (mL1.1 31 + 0) by omega) (show (mL1.1 31 + 0) ≤ (200 : Int) by omega)
          have hf12 : fr [31, 32, 33] [] m (kF (kF mL1 32 (mL1.1 31)) 31 (mL1.1 31 + 0)) := fr_F hf9 31 _ rfl
          have hk0 : (m.1 23 ≤ (SK (m.2.1 64) (m.1 23) (m.1 31)) ∧ (mL1.1 31 + 0) = (SK (m.2.1 64) (m.1 23) (m.1 31))) ∨ ((SK (m.2.1 64) (m.1 23) (m.1 31)) < m.1 23 ∧ ((srt (m.2.1 64 (SK (m.2.1 64) (m.1 23) (m.1 31))) = 0 ∧ (mL1.1 31 + 0) = (SK (m.2.1 64) (m.1 23) (m.1 31)) + 1) ∨ (srt (m.2.1 64 (SK (m.2.1 64) (m.1 23) (m.1 31))) ≠ 0 ∧ RN (m.2.1 64) (m.1 23) (srt (m.2.1 64 (SK (m.2.1 64) (m.1 23) (m.1 31)))) ((mL1.1 31 + 0)) = RN (m.2.1 64) (m.1 23) (srt (m.2.1 64 (SK (m.2.1 64) (m.1 23) (m.1 31)))) ((SK (m.2.1 64) (m.1 23) (m.1 31)) + 1)))) := by
            by_cases q1 : m.1 23 ≤ (SK (m.2.1 64) (m.1 23) (m.1 31))
            · exact Or.inl ⟨q1, by omega⟩
            · refine Or.inr ⟨by omega, ?_⟩; by_cases q2 : srt (m.2.1 64 (SK (m.2.1 64) (m.1 23) (m.1 31))) = 0; exact Or.inl ⟨q2, by omega⟩; exact Or.inr ⟨q2, by rw [show (mL1.1 31 + 0) = (SK (m.2.1 64) (m.1 23) (m.1 31)) + 1 by omega]⟩
          have L71_2 : ∀ (n71_2 : Nat)  (mL2 : kM), (kI mL2) → (fr [31, 32, 33] [] m mL2) → ((m.1 23 ≤ (SK (m.2.1 64) (m.1 23) (m.1 31)) ∧ mL2.1 31 = (SK (m.2.1 64) (m.1 23) (m.1 31))) ∨ ((SK (m.2.1 64) (m.1 23) (m.1 31)) < m.1 23 ∧ ((srt (m.2.1 64 (SK (m.2.1 64) (m.1 23) (m.1 31))) = 0 ∧ mL2.1 31 = (SK (m.2.1 64) (m.1 23) (m.1 31)) + 1) ∨ (srt (m.2.1 64 (SK (m.2.1 64) (m.1 23) (m.1 31))) ≠ 0 ∧ RN (m.2.1 64) (m.1 23) (srt (m.2.1 64 (SK (m.2.1 64) (m.1 23) (m.1 31)))) (mL2.1 31) = RN (m.2.1 64) (m.1 23) (srt (m.2.1 64 (SK (m.2.1 64) (m.1 23) (m.1 31)))) ((SK (m.2.1 64) (m.1 23) (m.1 31)) + 1))))) → (mL2.1 31 ≤ m.1 23) → (mL2.1 32 = (SK (m.2.1 64) (m.1 23) (m.1 31))) → ((SK (m.2.1 64) (m.1 23) (m.1 31)) ≤ mL2.1 31) → ((200 - mL2.1 31).toNat) = n71_2 → cg_G V mX10_token d q (R_V (fun m' => (kI m') ∧ (fr [31, 32, 33] [] m m') ∧ (m'.1 32 = (SK (m.2.1 64) (m.1 23) (m.1 31))) ∧ (m'.1 33 = EP (m.2.1 64) (m.1 23) (m.1 31)) ∧ (m'.1 31 = EP (m.2.1 64) (m.1 23) (m.1 31)))) 71 [(0, vR 61)] [] (kl mL2) 0 0 := by
            intro n71_2
            induction n71_2 using Nat.strongRecOn with
            | _ n71_2 ih71_2 =>
              intro mL2 hmL2 hfL2 kC kL kS kG q13
              refine g_aload_n (n := 0) rfl rfl ?_
              have h14 : 0 ≤ mL2.1 31 ∧ mL2.1 31 ≤ 200 := hmL2.1 31
              refine g_getf (v := vI (mL2.1 31)) rfl (kl_61 _) rfl ?_
              refine g_aload_n (n := 0) rfl rfl ?_
              have h15 : 0 ≤ mL2.1 23 ∧ mL2.1 23 ≤ 200 := hmL2.1 23
              have h16 : mL2.1 23 = m.1 23 := hfL2.1 23 rfl
              refine g_getf (v := vI (mL2.1 23)) rfl (kl_61 _) rfl ?_
              refine g_icmp_ge (by omega) (by omega) (by omega) (by omega) rfl ?_ ?_
              · intro kk17
                refine g_aload_n (n := 0) rfl rfl ?_
                refine g_aload_n (n := 0) rfl rfl ?_
                refine g_getf (v := vI (mL2.1 31)) rfl (kl_61 _) rfl ?_
                refine g_putF (m' := (kF mL2 33 (mL2.1 31))) rfl (kl_61 _) rfl rfl rfl rfl (kF_33 _ _) ?_
                have hm18 : kI (kF mL2 33 (mL2.1 31)) := kI_F hmL2 33 (show (0 : Int) ≤ mL2.1 31 by omega) (show mL2.1 31 ≤ (200 : Int) by omega)
                have hf19 : fr [31, 32, 33] [] m (kF mL2 33 (mL2.1 31)) := fr_F hfL2 33 _ rfl
                refine g_vret rfl rfl ?_
                have hs4 := srt_sp (m.2.1 64 (mL2.1 31))
                have e5 : m.2.1 64 (mL2.1 32) = m.2.1 64 (SK (m.2.1 64) (m.1 23) (m.1 31)) := by rw [kS]
                have hE : mL2.1 31 = EP (m.2.1 64) (m.1 23) (m.1 31) := by
                  show _ = TE (m.2.1 64) (m.1 23) (SK (m.2.1 64) (m.1 23) (m.1 31))
                  rcases kC with q1 | ⟨q0, q1 | q1⟩
                  · rw [TE_0 q1.1]; omega
                  · rw [TE_1 q0 q1.1]; omega
                  · rw [TE_2 q0 rfl q1.1, ← q1.2]; exact (RN_out (by omega)).symm
                exact ⟨_, rfl, hm18, hf19, kS, hE, hE⟩
              · intro kk20
                refine g_aload_n (n := 0) rfl rfl ?_
                refine g_getf (v := vR 64) rfl (kl_61 _) rfl ?_
                refine g_aload_n (n := 0) rfl rfl ?_
                have h21 : 0 ≤ mL2.1 32 ∧ mL2.1 32 ≤ 200 := hmL2.1 32
                refine g_getf (v := vI (mL2.1 32)) rfl (kl_61 _) rfl ?_
                have h22 : 0 ≤ mL2.2.1 64 (mL2.1 32) ∧ mL2.2.1 64 (mL2.1 32) ≤ 255 := hmL2.2 64 (mL2.1 32) (by omega) (show mL2.1 32 < (200 : Int) by omega)
                have h23 : mL2.2.1 64 (mL2.1 32) = m.2.1 64 (mL2.1 32) := congrFun (hfL2.2.1 64 rfl) _
                refine g_iald (f := mL2.2.1 64) rfl (kl_64 _) (by decide) (by omega) (by omega) ?_
                refine c_sI (ps := [vI (mL2.2.1 64 (mL2.1 32))]) (r := []) (as := [vI (mL2.2.1 64 (mL2.1 32))]) (cs' := 0) (sl' := 0) rfl rfl rfl rfl rfl rfl (d_sort (d := d - 1) (q := q - (1 + 19)) (by omega) (by omega) hmL2 (c := mL2.2.1 64 (mL2.1 32)) (show (-2147483648) ≤ mL2.2.1 64 (mL2.1 32) ∧ mL2.2.1 64 (mL2.1 32) ≤ 2147483647 by omega)) (by omega) (show 1 + 19 ≤ q by omega) (Nat.le_of_ble_eq_true rfl) (Nat.le_of_ble_eq_true rfl) rfl rfl rfl ?_
                rintro z24 m25 ⟨rfl, p27⟩
                refine g_if_le (by omega) (by omega) rfl ?_ ?_
                · intro kk28
                  refine g_aload_n (n := 0) rfl rfl ?_
                  refine g_aload_n (n := 0) rfl rfl ?_
                  refine g_getf (v := vI (mL2.1 31)) rfl (kl_61 _) rfl ?_
                  refine g_putF (m' := (kF mL2 33 (mL2.1 31))) rfl (kl_61 _) rfl rfl rfl rfl (kF_33 _ _) ?_
                  have hm29 : kI (kF mL2 33 (mL2.1 31)) := kI_F hmL2 33 (show (0 : Int) ≤ mL2.1 31 by omega) (show mL2.1 31 ≤ (200 : Int) by omega)
                  have hf30 : fr [31, 32, 33] [] m (kF mL2 33 (mL2.1 31)) := fr_F hfL2 33 _ rfl
                  refine g_vret rfl rfl ?_
                  have hs4 := srt_sp (m.2.1 64 (mL2.1 31))
                  have e5 : m.2.1 64 (mL2.1 32) = m.2.1 64 (SK (m.2.1 64) (m.1 23) (m.1 31)) := by rw [kS]
                  have hE : mL2.1 31 = EP (m.2.1 64) (m.1 23) (m.1 31) := by
                    show _ = TE (m.2.1 64) (m.1 23) (SK (m.2.1 64) (m.1 23) (m.1 31))
                    rcases kC with q1 | ⟨q0, q1 | q1⟩
                    · rw [TE_0 q1.1]; omega
                    · rw [TE_1 q0 q1.1]; omega
                    · rw [TE_2 q0 rfl q1.1, ← q1.2]; exact (RN_out (by omega)).symm
                  exact ⟨_, rfl, hm29, hf30, kS, hE, hE⟩
                · intro kk31
                  refine g_aload_n (n := 0) rfl rfl ?_
                  refine g_getf (v := vR 64) rfl (kl_61 _) rfl ?_
                  refine g_aload_n (n := 0) rfl rfl ?_
                  refine g_getf (v := vI (mL2.1 31)) rfl (kl_61 _) rfl ?_
                  have h32 : 0 ≤ mL2.2.1 64 (mL2.1 31) ∧ mL2.2.1 64 (mL2.1 31) ≤ 255 := hmL2.2 64 (mL2.1 31) (by omega) (show mL2.1 31 < (200 : Int) by omega)
                  have h33 : mL2.2.1 64 (mL2.1 31) = m.2.1 64 (mL2.1 31) := congrFun (hfL2.2.1 64 rfl) _
                  refine g_iald (f := mL2.2.1 64) rfl (kl_64 _) (by decide) (by omega) (by omega) ?_
                  refine c_sI (ps := [vI (mL2.2.1 64 (mL2.1 31))]) (r := []) (as := [vI (mL2.2.1 64 (mL2.1 31))]) (cs' := 0) (sl' := 0) rfl rfl rfl rfl rfl rfl (d_sort (d := d - 1) (q := q - (1 + 19)) (by omega) (by omega) hmL2 (c := mL2.2.1 64 (mL2.1 31)) (show (-2147483648) ≤ mL2.2.1 64 (mL2.1 31) ∧ mL2.2.1 64 (mL2.1 31) ≤ 2147483647 by omega)) (by omega) (show 1 + 19 ≤ q by omega) (Nat.le_of_ble_eq_true rfl) (Nat.le_of_ble_eq_true rfl) rfl rfl rfl ?_
                  rintro z34 m35 ⟨rfl, p37⟩
                  refine g_aload_n (n := 0) rfl rfl ?_
                  refine g_getf (v := vR 64) rfl (kl_61 _) rfl ?_
                  refine g_aload_n (n := 0) rfl rfl ?_
                  refine g_getf (v := vI (mL2.1 32)) rfl (kl_61 _) rfl ?_
                  have h38 : 0 ≤ mL2.2.1 64 (mL2.1 32) ∧ mL2.2.1 64 (mL2.1 32) ≤ 255 := hmL2.2 64 (mL2.1 32) (by omega) (show mL2.1 32 < (200 : Int) by omega)
                  have h39 : mL2.2.1 64 (mL2.1 32) = m.2.1 64 (mL2.1 32) := congrFun (hfL2.2.1 64 rfl) _
                  refine g_iald (f := mL2.2.1 64) rfl (kl_64 _) (by decide) (by omega) (by omega) ?_
                  refine c_sI (ps := [vI (mL2.2.1 64 (mL2.1 32))]) (r := [vI z34]) (as := [vI (mL2.2.1 64 (mL2.1 32))]) (cs' := 0) (sl' := 0) rfl rfl rfl rfl rfl rfl (d_sort (d := d - 1) (q := q - (1 + 19)) (by omega) (by omega) hmL2 (c := mL2.2.1 64 (mL2.1 32)) (show (-2147483648) ≤ mL2.2.1 64 (mL2.1 32) ∧ mL2.2.1 64 (mL2.1 32) ≤ 2147483647 by omega)) (by omega) (show 1 + 19 ≤ q by omega) (Nat.le_of_ble_eq_true rfl) (Nat.le_of_ble_eq_true rfl) rfl rfl rfl ?_
                  rintro z40 m41 ⟨rfl, p43⟩
                  refine g_icmp_ne (by omega) (by omega) (by omega) (by omega) rfl ?_ ?_
                  · intro kk44
                    refine g_aload_n (n := 0) rfl rfl ?_
                    refine g_aload_n (n := 0) rfl rfl ?_
                    refine g_getf (v := vI (mL2.1 31)) rfl (kl_61 _) rfl ?_
                    refine g_putF (m' := (kF mL2 33 (mL2.1 31))) rfl (kl_61 _) rfl rfl rfl rfl (kF_33 _ _) ?_
                    have hm45 : kI (kF mL2 33 (mL2.1 31)) := kI_F hmL2 33 (show (0 : Int) ≤ mL2.1 31 by omega) (show mL2.1 31 ≤ (200 : Int) by omega)
                    have hf46 : fr [31, 32, 33] [] m (kF mL2 33 (mL2.1 31)) := fr_F hfL2 33 _ rfl
                    refine g_vret rfl rfl ?_
                    have hs4 := srt_sp (m.2.1 64 (mL2.1 31))
                    have e5 : m.2.1 64 (mL2.1 32) = m.2.1 64 (SK (m.2.1 64) (m.1 23) (m.1 31)) := by rw [kS]
                    have hE : mL2.1 31 = EP (m.2.1 64) (m.1 23) (m.1 31) := by
                      show _ = TE (m.2.1 64) (m.1 23) (SK (m.2.1 64) (m.1 23) (m.1 31))
                      rcases kC with q1 | ⟨q0, q1 | q1⟩
                      · rw [TE_0 q1.1]; omega
                      · rw [TE_1 q0 q1.1]; omega
                      · rw [TE_2 q0 rfl q1.1, ← q1.2]; exact (RN_out (by omega)).symm
                    exact ⟨_, rfl, hm45, hf46, kS, hE, hE⟩
                  · intro kk47
                    have hs4 := srt_sp (m.2.1 64 (mL2.1 31))
                    have e5 : m.2.1 64 (mL2.1 32) = m.2.1 64 (SK (m.2.1 64) (m.1 23) (m.1 31)) := by rw [kS]
                    have hkn : (m.1 23 ≤ (SK (m.2.1 64) (m.1 23) (m.1 31)) ∧ (mL2.1 31 + 1) = (SK (m.2.1 64) (m.1 23) (m.1 31))) ∨ ((SK (m.2.1 64) (m.1 23) (m.1 31)) < m.1 23 ∧ ((srt (m.2.1 64 (SK (m.2.1 64) (m.1 23) (m.1 31))) = 0 ∧ (mL2.1 31 + 1) = (SK (m.2.1 64) (m.1 23) (m.1 31)) + 1) ∨ (srt (m.2.1 64 (SK (m.2.1 64) (m.1 23) (m.1 31))) ≠ 0 ∧ RN (m.2.1 64) (m.1 23) (srt (m.2.1 64 (SK (m.2.1 64) (m.1 23) (m.1 31)))) ((mL2.1 31 + 1)) = RN (m.2.1 64) (m.1 23) (srt (m.2.1 64 (SK (m.2.1 64) (m.1 23) (m.1 31)))) ((SK (m.2.1 64) (m.1 23) (m.1 31)) + 1)))) := by
                      rcases kC with q1 | ⟨q0, q1 | q1⟩
                      · exfalso; omega
                      · exfalso; omega
                      · exact Or.inr ⟨q0, Or.inr ⟨q1.1, by rw [← RN_in (by omega) (show srt (m.2.1 64 (mL2.1 31)) = srt (m.2.1 64 (SK (m.2.1 64) (m.1 23) (m.1 31))) by omega)]; exact q1.2⟩⟩
                    refine g_aload_n (n := 0) rfl rfl ?_
                    refine g_dup rfl rfl ?_
                    refine g_getf (v := vI (mL2.1 31)) rfl (kl_61 _) rfl ?_
                    refine g_iconst rfl ?_
                    refine g_iadd rfl ?_
                    refine g_putF (m' := (kF mL2 31 (mL2.1 31 + 1))) rfl (kl_61 _) rfl rfl rfl rfl (kF_31 _ _) ?_
                    have hm48 : kI (kF mL2 31 (mL2.1 31 + 1)) := kI_F hmL2 31 (show (0 : Int) ≤ (mL2.1 31 + 1) by omega) (show (mL2.1 31 + 1) ≤ (200 : Int) by omega)
                    have hf49 : fr [31, 32, 33] [] m (kF mL2 31 (mL2.1 31 + 1)) := fr_F hfL2 31 _ rfl
                    refine g_goto rfl ?_
                    have h50 : (kF mL2 31 (mL2.1 31 + 1)).1 31 = (mL2.1 31 + 1) := rfl
                    exact ih71_2 _ (by omega)  (kF mL2 31 (mL2.1 31 + 1)) hm48 hf49 hkn (by omega) kS (by omega) rfl
          have h51 : (kF (kF mL1 32 (mL1.1 31)) 31 (mL1.1 31 + 0)).1 31 = (mL1.1 31 + 0) := rfl
          have h52 : (kF (kF mL1 32 (mL1.1 31)) 31 (mL1.1 31 + 0)).1 32 = mL1.1 31 := rfl
          exact L71_2 _  (kF (kF mL1 32 (mL1.1 31)) 31 (mL1.1 31 + 0)) hm11 hf12 hk0 (by omega) hs0 (by omega) rfl
        · intro kk53
          refine g_iconst rfl ?_
          refine g_goto rfl ?_
          refine g_iadd rfl ?_
          refine g_putF (m' := (kF (kF mL1 32 (mL1.1 31)) 31 (mL1.1 31 + 1))) rfl (kl_61 _) rfl rfl rfl rfl (kF_31 _ _) ?_
          have hm54 : kI (kF (kF mL1 32 (mL1.1 31)) 31 (mL1.1 31 + 1)) := kI_F hm8 31 (show (0 : Int) ≤ (mL1.1 31 + 1) by omega) (show (mL1.1 31 + 1) ≤ (200 : Int) by omega)
          have hf55 : fr [31, 32, 33] [] m (kF (kF mL1 32 (mL1.1 31)) 31 (mL1.1 31 + 1)) := fr_F hf9 31 _ rfl
          have hk0 : (m.1 23 ≤ (SK (m.2.1 64) (m.1 23) (m.1 31)) ∧ (mL1.1 31 + 1) = (SK (m.2.1 64) (m.1 23) (m.1 31))) ∨ ((SK (m.2.1 64) (m.1 23) (m.1 31)) < m.1 23 ∧ ((srt (m.2.1 64 (SK (m.2.1 64) (m.1 23) (m.1 31))) = 0 ∧ (mL1.1 31 + 1) = (SK (m.2.1 64) (m.1 23) (m.1 31)) + 1) ∨ (srt (m.2.1 64 (SK (m.2.1 64) (m.1 23) (m.1 31))) ≠ 0 ∧ RN (m.2.1 64) (m.1 23) (srt (m.2.1 64 (SK (m.2.1 64) (m.1 23) (m.1 31)))) ((mL1.1 31 + 1)) = RN (m.2.1 64) (m.1 23) (srt (m.2.1 64 (SK (m.2.1 64) (m.1 23) (m.1 31)))) ((SK (m.2.1 64) (m.1 23) (m.1 31)) + 1)))) := by
            by_cases q1 : m.1 23 ≤ (SK (m.2.1 64) (m.1 23) (m.1 31))
            · exact Or.inl ⟨q1, by omega⟩
            · refine Or.inr ⟨by omega, ?_⟩; by_cases q2 : srt (m.2.1 64 (SK (m.2.1 64) (m.1 23) (m.1 31))) = 0; exact Or.inl ⟨q2, by omega⟩; exact Or.inr ⟨q2, by rw [show (mL1.1 31 + 1) = (SK (m.2.1 64) (m.1 23) (m.1 31)) + 1 by omega]⟩
          have L71_3 : ∀ (n71_3 : Nat)  (mL3 : kM), (kI mL3) → (fr [31, 32, 33] [] m mL3) → ((m.1 23 ≤ (SK (m.2.1 64) (m.1 23) (m.1 31)) ∧ mL3.1 31 = (SK (m.2.1 64) (m.1 23) (m.1 31))) ∨ ((SK (m.2.1 64) (m.1 23) (m.1 31)) < m.1 23 ∧ ((srt (m.2.1 64 (SK (m.2.1 64) (m.1 23) (m.1 31))) = 0 ∧ mL3.1 31 = (SK (m.2.1 64) (m.1 23) (m.1 31)) + 1) ∨ (srt (m.2.1 64 (SK (m.2.1 64) (m.1 23) (m.1 31))) ≠ 0 ∧ RN (m.2.1 64) (m.1 23) (srt (m.2.1 64 (SK (m.2.1 64) (m.1 23) (m.1 31)))) (mL3.1 31) = RN (m.2.1 64) (m.1 23) (srt (m.2.1 64 (SK (m.2.1 64) (m.1 23) (m.1 31)))) ((SK (m.2.1 64) (m.1 23) (m.1 31)) + 1))))) → (mL3.1 31 ≤ m.1 23) → (mL3.1 32 = (SK (m.2.1 64) (m.1 23) (m.1 31))) → ((SK (m.2.1 64) (m.1 23) (m.1 31)) ≤ mL3.1 31) → ((200 - mL3.1 31).toNat) = n71_3 → cg_G V mX10_token d q (R_V (fun m' => (kI m') ∧ (fr [31, 32, 33] [] m m') ∧ (m'.1 32 = (SK (m.2.1 64) (m.1 23) (m.1 31))) ∧ (m'.1 33 = EP (m.2.1 64) (m.1 23) (m.1 31)) ∧ (m'.1 31 = EP (m.2.1 64) (m.1 23) (m.1 31)))) 71 [(0, vR 61)] [] (kl mL3) 0 0 := by
            intro n71_3
            induction n71_3 using Nat.strongRecOn with
            | _ n71_3 ih71_3 =>
              intro mL3 hmL3 hfL3 kC kL kS kG q56
              refine g_aload_n (n := 0) rfl rfl ?_
              have h57 : 0 ≤ mL3.1 31 ∧ mL3.1 31 ≤ 200 := hmL3.1 31
              refine g_getf (v := vI (mL3.1 31)) rfl (kl_61 _) rfl ?_
              refine g_aload_n (n := 0) rfl rfl ?_
              have h58 : 0 ≤ mL3.1 23 ∧ mL3.1 23 ≤ 200 := hmL3.1 23
              have h59 : mL3.1 23 = m.1 23 := hfL3.1 23 rfl
              refine g_getf (v := vI (mL3.1 23)) rfl (kl_61 _) rfl ?_
              refine g_icmp_ge (by omega) (by omega) (by omega) (by omega) rfl ?_ ?_
              · intro kk60
                refine g_aload_n (n := 0) rfl rfl ?_
                refine g_aload_n (n := 0) rfl rfl ?_
                refine g_getf (v := vI (mL3.1 31)) rfl (kl_61 _) rfl ?_
                refine g_putF (m' := (kF mL3 33 (mL3.1 31))) rfl (kl_61 _) rfl rfl rfl rfl (kF_33 _ _) ?_
                have hm61 : kI (kF mL3 33 (mL3.1 31)) := kI_F hmL3 33 (show (0 : Int) ≤ mL3.1 31 by omega) (show mL3.1 31 ≤ (200 : Int) by omega)
                have hf62 : fr [31, 32, 33] [] m (kF mL3 33 (mL3.1 31)) := fr_F hfL3 33 _ rfl
                refine g_vret rfl rfl ?_
                have hs4 := srt_sp (m.2.1 64 (mL3.1 31))
                have e5 : m.2.1 64 (mL3.1 32) = m.2.1 64 (SK (m.2.1 64) (m.1 23) (m.1 31)) := by rw [kS]
                have hE : mL3.1 31 = EP (m.2.1 64) (m.1 23) (m.1 31) := by
                  show _ = TE (m.2.1 64) (m.1 23) (SK (m.2.1 64) (m.1 23) (m.1 31))
                  rcases kC with q1 | ⟨q0, q1 | q1⟩
                  · rw [TE_0 q1.1]; omega
                  · rw [TE_1 q0 q1.1]; omega
                  · rw [TE_2 q0 rfl q1.1, ← q1.2]; exact (RN_out (by omega)).symm
                exact ⟨_, rfl, hm61, hf62, kS, hE, hE⟩
              · intro kk63
                refine g_aload_n (n := 0) rfl rfl ?_
                refine g_getf (v := vR 64) rfl (kl_61 _) rfl ?_
                refine g_aload_n (n := 0) rfl rfl ?_
                have h64 : 0 ≤ mL3.1 32 ∧ mL3.1 32 ≤ 200 := hmL3.1 32
                refine g_getf (v := vI (mL3.1 32)) rfl (kl_61 _) rfl ?_
                have h65 : 0 ≤ mL3.2.1 64 (mL3.1 32) ∧ mL3.2.1 64 (mL3.1 32) ≤ 255 := hmL3.2 64 (mL3.1 32) (by omega) (show mL3.1 32 < (200 : Int) by omega)
                have h66 : mL3.2.1 64 (mL3.1 32) = m.2.1 64 (mL3.1 32) := congrFun (hfL3.2.1 64 rfl) _
                refine g_iald (f := mL3.2.1 64) rfl (kl_64 _) (by decide) (by omega) (by omega) ?_
                refine c_sI (ps := [vI (mL3.2.1 64 (mL3.1 32))]) (r := []) (as := [vI (mL3.2.1 64 (mL3.1 32))]) (cs' := 0) (sl' := 0) rfl rfl rfl rfl rfl rfl (d_sort (d := d - 1) (q := q - (1 + 19)) (by omega) (by omega) hmL3 (c := mL3.2.1 64 (mL3.1 32)) (show (-2147483648) ≤ mL3.2.1 64 (mL3.1 32) ∧ mL3.2.1 64 (mL3.1 32) ≤ 2147483647 by omega)) (by omega) (show 1 + 19 ≤ q by omega) (Nat.le_of_ble_eq_true rfl) (Nat.le_of_ble_eq_true rfl) rfl rfl rfl ?_
                rintro z67 m68 ⟨rfl, p70⟩
                refine g_if_le (by omega) (by omega) rfl ?_ ?_
                · intro kk71
                  refine g_aload_n (n := 0) rfl rfl ?_
                  refine g_aload_n (n := 0) rfl rfl ?_
                  refine g_getf (v := vI (mL3.1 31)) rfl (kl_61 _) rfl ?_
                  refine g_putF (m' := (kF mL3 33 (mL3.1 31))) rfl (kl_61 _) rfl rfl rfl rfl (kF_33 _ _) ?_
                  have hm72 : kI (kF mL3 33 (mL3.1 31)) := kI_F hmL3 33 (show (0 : Int) ≤ mL3.1 31 by omega) (show mL3.1 31 ≤ (200 : Int) by omega)
                  have hf73 : fr [31, 32, 33] [] m (kF mL3 33 (mL3.1 31)) := fr_F hfL3 33 _ rfl
                  refine g_vret rfl rfl ?_
                  have hs4 := srt_sp (m.2.1 64 (mL3.1 31))
                  have e5 : m.2.1 64 (mL3.1 32) = m.2.1 64 (SK (m.2.1 64) (m.1 23) (m.1 31)) := by rw [kS]
                  have hE : mL3.1 31 = EP (m.2.1 64) (m.1 23) (m.1 31) := by
                    show _ = TE (m.2.1 64) (m.1 23) (SK (m.2.1 64) (m.1 23) (m.1 31))
                    rcases kC with q1 | ⟨q0, q1 | q1⟩
                    · rw [TE_0 q1.1]; omega
                    · rw [TE_1 q0 q1.1]; omega
                    · rw [TE_2 q0 rfl q1.1, ← q1.2]; exact (RN_out (by omega)).symm
                  exact ⟨_, rfl, hm72, hf73, kS, hE, hE⟩
                · intro kk74
                  refine g_aload_n (n := 0) rfl rfl ?_
                  refine g_getf (v := vR 64) rfl (kl_61 _) rfl ?_
                  refine g_aload_n (n := 0) rfl rfl ?_
                  refine g_getf (v := vI (mL3.1 31)) rfl (kl_61 _) rfl ?_
                  have h75 : 0 ≤ mL3.2.1 64 (mL3.1 31) ∧ mL3.2.1 64 (mL3.1 31) ≤ 255 := hmL3.2 64 (mL3.1 31) (by omega) (show mL3.1 31 < (200 : Int) by omega)
                  have h76 : mL3.2.1 64 (mL3.1 31) = m.2.1 64 (mL3.1 31) := congrFun (hfL3.2.1 64 rfl) _
                  refine g_iald (f := mL3.2.1 64) rfl (kl_64 _) (by decide) (by omega) (by omega) ?_
                  refine c_sI (ps := [vI (mL3.2.1 64 (mL3.1 31))]) (r := []) (as := [vI (mL3.2.1 64 (mL3.1 31))]) (cs' := 0) (sl' := 0) rfl rfl rfl rfl rfl rfl (d_sort (d := d - 1) (q := q - (1 + 19)) (by omega) (by omega) hmL3 (c := mL3.2.1 64 (mL3.1 31)) (show (-2147483648) ≤ mL3.2.1 64 (mL3.1 31) ∧ mL3.2.1 64 (mL3.1 31) ≤ 2147483647 by omega)) (by omega) (show 1 + 19 ≤ q by omega) (Nat.le_of_ble_eq_true rfl) (Nat.le_of_ble_eq_true rfl) rfl rfl rfl ?_
                  rintro z77 m78 ⟨rfl, p80⟩
                  refine g_aload_n (n := 0) rfl rfl ?_
                  refine g_getf (v := vR 64) rfl (kl_61 _) rfl ?_
                  refine g_aload_n (n := 0) rfl rfl ?_
                  refine g_getf (v := vI (mL3.1 32)) rfl (kl_61 _) rfl ?_
                  have h81 : 0 ≤ mL3.2.1 64 (mL3.1 32) ∧ mL3.2.1 64 (mL3.1 32) ≤ 255 := hmL3.2 64 (mL3.1 32) (by omega) (show mL3.1 32 < (200 : Int) by omega)
                  have h82 : mL3.2.1 64 (mL3.1 32) = m.2.1 64 (mL3.1 32) := congrFun (hfL3.2.1 64 rfl) _
                  refine g_iald (f := mL3.2.1 64) rfl (kl_64 _) (by decide) (by omega) (by omega) ?_
                  refine c_sI (ps := [vI (mL3.2.1 64 (mL3.1 32))]) (r := [vI z77]) (as := [vI (mL3.2.1 64 (mL3.1 32))]) (cs' := 0) (sl' := 0) rfl rfl rfl rfl rfl rfl (d_sort (d := d - 1) (q := q - (1 + 19)) (by omega) (by omega) hmL3 (c := mL3.2.1 64 (mL3.1 32)) (show (-2147483648) ≤ mL3.2.1 64 (mL3.1 32) ∧ mL3.2.1 64 (mL3.1 32) ≤ 2147483647 by omega)) (by omega) (show 1 + 19 ≤ q by omega) (Nat.le_of_ble_eq_true rfl) (Nat.le_of_ble_eq_true rfl) rfl rfl rfl ?_
                  rintro z83 m84 ⟨rfl, p86⟩
                  refine g_icmp_ne (by omega) (by omega) (by omega) (by omega) rfl ?_ ?_
                  · intro kk87
                    refine g_aload_n (n := 0) rfl rfl ?_
                    refine g_aload_n (n := 0) rfl rfl ?_
                    refine g_getf (v := vI (mL3.1 31)) rfl (kl_61 _) rfl ?_
                    refine g_putF (m' := (kF mL3 33 (mL3.1 31))) rfl (kl_61 _) rfl rfl rfl rfl (kF_33 _ _) ?_
                    have hm88 : kI (kF mL3 33 (mL3.1 31)) := kI_F hmL3 33 (show (0 : Int) ≤ mL3.1 31 by omega) (show mL3.1 31 ≤ (200 : Int) by omega)
                    have hf89 : fr [31, 32, 33] [] m (kF mL3 33 (mL3.1 31)) := fr_F hfL3 33 _ rfl
                    refine g_vret rfl rfl ?_
                    have hs4 := srt_sp (m.2.1 64 (mL3.1 31))
                    have e5 : m.2.1 64 (mL3.1 32) = m.2.1 64 (SK (m.2.1 64) (m.1 23) (m.1 31)) := by rw [kS]
                    have hE : mL3.1 31 = EP (m.2.1 64) (m.1 23) (m.1 31) := by
                      show _ = TE (m.2.1 64) (m.1 23) (SK (m.2.1 64) (m.1 23) (m.1 31))
                      rcases kC with q1 | ⟨q0, q1 | q1⟩
                      · rw [TE_0 q1.1]; omega
                      · rw [TE_1 q0 q1.1]; omega
                      · rw [TE_2 q0 rfl q1.1, ← q1.2]; exact (RN_out (by omega)).symm
                    exact ⟨_, rfl, hm88, hf89, kS, hE, hE⟩
                  · intro kk90
                    have hs4 := srt_sp (m.2.1 64 (mL3.1 31))
                    have e5 : m.2.1 64 (mL3.1 32) = m.2.1 64 (SK (m.2.1 64) (m.1 23) (m.1 31)) := by rw [kS]
                    have hkn : (m.1 23 ≤ (SK (m.2.1 64) (m.1 23) (m.1 31)) ∧ (mL3.1 31 + 1) = (SK (m.2.1 64) (m.1 23) (m.1 31))) ∨ ((SK (m.2.1 64) (m.1 23) (m.1 31)) < m.1 23 ∧ ((srt (m.2.1 64 (SK (m.2.1 64) (m.1 23) (m.1 31))) = 0 ∧ (mL3.1 31 + 1) = (SK (m.2.1 64) (m.1 23) (m.1 31)) + 1) ∨ (srt (m.2.1 64 (SK (m.2.1 64) (m.1 23) (m.1 31))) ≠ 0 ∧ RN (m.2.1 64) (m.1 23) (srt (m.2.1 64 (SK (m.2.1 64) (m.1 23) (m.1 31)))) ((mL3.1 31 + 1)) = RN (m.2.1 64) (m.1 23) (srt (m.2.1 64 (SK (m.2.1 64) (m.1 23) (m.1 31)))) ((SK (m.2.1 64) (m.1 23) (m.1 31)) + 1)))) := by
                      rcases kC with q1 | ⟨q0, q1 | q1⟩
                      · exfalso; omega
                      · exfalso; omega
                      · exact Or.inr ⟨q0, Or.inr ⟨q1.1, by rw [← RN_in (by omega) (show srt (m.2.1 64 (mL3.1 31)) = srt (m.2.1 64 (SK (m.2.1 64) (m.1 23) (m.1 31))) by omega)]; exact q1.2⟩⟩
                    refine g_aload_n (n := 0) rfl rfl ?_
                    refine g_dup rfl rfl ?_
                    refine g_getf (v := vI (mL3.1 31)) rfl (kl_61 _) rfl ?_
                    refine g_iconst rfl ?_
                    refine g_iadd rfl ?_
                    refine g_putF (m' := (kF mL3 31 (mL3.1 31 + 1))) rfl (kl_61 _) rfl rfl rfl rfl (kF_31 _ _) ?_
                    have hm91 : kI (kF mL3 31 (mL3.1 31 + 1)) := kI_F hmL3 31 (show (0 : Int) ≤ (mL3.1 31 + 1) by omega) (show (mL3.1 31 + 1) ≤ (200 : Int) by omega)
                    have hf92 : fr [31, 32, 33] [] m (kF mL3 31 (mL3.1 31 + 1)) := fr_F hfL3 31 _ rfl
                    refine g_goto rfl ?_
                    have h93 : (kF mL3 31 (mL3.1 31 + 1)).1 31 = (mL3.1 31 + 1) := rfl
                    exact ih71_3 _ (by omega)  (kF mL3 31 (mL3.1 31 + 1)) hm91 hf92 hkn (by omega) kS (by omega) rfl
          have h94 : (kF (kF mL1 32 (mL1.1 31)) 31 (mL1.1 31 + 1)).1 31 = (mL1.1 31 + 1) := rfl
          have h95 : (kF (kF mL1 32 (mL1.1 31)) 31 (mL1.1 31 + 1)).1 32 = mL1.1 31 := rfl
          exact L71_3 _  (kF (kF mL1 32 (mL1.1 31)) 31 (mL1.1 31 + 1)) hm54 hf55 hk0 (by omega) hs0 (by omega) rfl
      · intro kk96
        refine g_aload_n (n := 0) rfl rfl ?_
        refine g_getf (v := vR 64) rfl (kl_61 _) rfl ?_
        refine g_aload_n (n := 0) rfl rfl ?_
        refine g_getf (v := vI (mL1.1 31)) rfl (kl_61 _) rfl ?_
        have h97 : 0 ≤ mL1.2.1 64 (mL1.1 31) ∧ mL1.2.1 64 (mL1.1 31) ≤ 255 := hmL1.2 64 (mL1.1 31) (by omega) (show mL1.1 31 < (200 : Int) by omega)
        have h98 : mL1.2.1 64 (mL1.1 31) = m.2.1 64 (mL1.1 31) := congrFun (hfL1.2.1 64 rfl) _
        refine g_iald (f := mL1.2.1 64) rfl (kl_64 _) (by decide) (by omega) (by omega) ?_
        refine g_bipush (by decide) rfl ?_
        refine g_icmp_ne (by omega) (by omega) (by decide) (by decide) rfl ?_ ?_
        · intro kk99
          have hs0 : mL1.1 31 = (SK (m.2.1 64) (m.1 23) (m.1 31)) := by rw [← iS]; exact (SK_out (by omega)).symm
          have hs3 := srt_sp (m.2.1 64 (SK (m.2.1 64) (m.1 23) (m.1 31)))
          refine g_aload_n (n := 0) rfl rfl ?_
          refine g_aload_n (n := 0) rfl rfl ?_
          refine g_getf (v := vI (mL1.1 31)) rfl (kl_61 _) rfl ?_
          refine g_putF (m' := (kF mL1 32 (mL1.1 31))) rfl (kl_61 _) rfl rfl rfl rfl (kF_32 _ _) ?_
          have hm100 : kI (kF mL1 32 (mL1.1 31)) := kI_F hmL1 32 (show (0 : Int) ≤ mL1.1 31 by omega) (show mL1.1 31 ≤ (200 : Int) by omega)
          have hf101 : fr [31, 32, 33] [] m (kF mL1 32 (mL1.1 31)) := fr_F hfL1 32 _ rfl
          refine g_aload_n (n := 0) rfl rfl ?_
          refine g_dup rfl rfl ?_
          refine g_getf (v := vI (mL1.1 31)) rfl (kl_61 _) rfl ?_
          refine g_aload_n (n := 0) rfl rfl ?_
          refine g_getf (v := vI (mL1.1 31)) rfl (kl_61 _) rfl ?_
          refine g_aload_n (n := 0) rfl rfl ?_
          refine g_getf (v := vI (mL1.1 23)) rfl (kl_61 _) rfl ?_
          refine g_icmp_ge (by omega) (by omega) (by omega) (by omega) rfl ?_ ?_
          · intro kk102
            refine g_iconst rfl ?_
            refine g_iadd rfl ?_
            refine g_putF (m' := (kF (kF mL1 32 (mL1.1 31)) 31 (mL1.1 31 + 0))) rfl (kl_61 _) rfl rfl rfl rfl (kF_31 _ _) ?_
            have hm103 : kI (kF (kF mL1 32 (mL1.1 31)) 31 (mL1.1 31 + 0)) := kI_F hm100 31 (show (0 : Int) ≤ (mL1.1 31 + 0) by omega) (show (mL1.1 31 + 0) ≤ (200 : Int) by omega)
            have hf104 : fr [31, 32, 33] [] m (kF (kF mL1 32 (mL1.1 31)) 31 (mL1.1 31 + 0)) := fr_F hf101 31 _ rfl
            have hk0 : (m.1 23 ≤ (SK (m.2.1 64) (m.1 23) (m.1 31)) ∧ (mL1.1 31 + 0) = (SK (m.2.1 64) (m.1 23) (m.1 31))) ∨ ((SK (m.2.1 64) (m.1 23) (m.1 31)) < m.1 23 ∧ ((srt (m.2.1 64 (SK (m.2.1 64) (m.1 23) (m.1 31))) = 0 ∧ (mL1.1 31 + 0) = (SK (m.2.1 64) (m.1 23) (m.1 31)) + 1) ∨ (srt (m.2.1 64 (SK (m.2.1 64) (m.1 23) (m.1 31))) ≠ 0 ∧ RN (m.2.1 64) (m.1 23) (srt (m.2.1 64 (SK (m.2.1 64) (m.1 23) (m.1 31)))) ((mL1.1 31 + 0)) = RN (m.2.1 64) (m.1 23) (srt (m.2.1 64 (SK (m.2.1 64) (m.1 23) (m.1 31)))) ((SK (m.2.1 64) (m.1 23) (m.1 31)) + 1)))) := by
              by_cases q1 : m.1 23 ≤ (SK (m.2.1 64) (m.1 23) (m.1 31))
              · exact Or.inl ⟨q1, by omega⟩
              · refine Or.inr ⟨by omega, ?_⟩; by_cases q2 : srt (m.2.1 64 (SK (m.2.1 64) (m.1 23) (m.1 31))) = 0; exact Or.inl ⟨q2, by omega⟩; exact Or.inr ⟨q2, by rw [show (mL1.1 31 + 0) = (SK (m.2.1 64) (m.1 23) (m.1 31)) + 1 by omega]⟩
            have L71_4 : ∀ (n71_4 : Nat)  (mL4 : kM), (kI mL4) → (fr [31, 32, 33] [] m mL4) → ((m.1 23 ≤ (SK (m.2.1 64) (m.1 23) (m.1 31)) ∧ mL4.1 31 = (SK (m.2.1 64) (m.1 23) (m.1 31))) ∨ ((SK (m.2.1 64) (m.1 23) (m.1 31)) < m.1 23 ∧ ((srt (m.2.1 64 (SK (m.2.1 64) (m.1 23) (m.1 31))) = 0 ∧ mL4.1 31 = (SK (m.2.1 64) (m.1 23) (m.1 31)) + 1) ∨ (srt (m.2.1 64 (SK (m.2.1 64) (m.1 23) (m.1 31))) ≠ 0 ∧ RN (m.2.1 64) (m.1 23) (srt (m.2.1 64 (SK (m.2.1 64) (m.1 23) (m.1 31)))) (mL4.1 31) = RN (m.2.1 64) (m.1 23) (srt (m.2.1 64 (SK (m.2.1 64) (m.1 23) (m.1 31)))) ((SK (m.2.1 64) (m.1 23) (m.1 31)) + 1))))) → (mL4.1 31 ≤ m.1 23) → (mL4.1 32 = (SK (m.2.1 64) (m.1 23) (m.1 31))) → ((SK (m.2.1 64) (m.1 23) (m.1 31)) ≤ mL4.1 31) → ((200 - mL4.1 31).toNat) = n71_4 → cg_G V mX10_token d q (R_V (fun m' => (kI m') ∧ (fr [31, 32, 33] [] m m') ∧ (m'.1 32 = (SK (m.2.1 64) (m.1 23) (m.1 31))) ∧ (m'.1 33 = EP (m.2.1 64) (m.1 23) (m.1 31)) ∧ (m'.1 31 = EP (m.2.1 64) (m.1 23) (m.1 31)))) 71 [(0, vR 61)] [] (kl mL4) 0 0 := by
              intro n71_4
              induction n71_4 using Nat.strongRecOn with
              | _ n71_4 ih71_4 =>
                intro mL4 hmL4 hfL4 kC kL kS kG q105
                refine g_aload_n (n := 0) rfl rfl ?_
                have h106 : 0 ≤ mL4.1 31 ∧ mL4.1 31 ≤ 200 := hmL4.1 31
                refine g_getf (v := vI (mL4.1 31)) rfl (kl_61 _) rfl ?_
                refine g_aload_n (n := 0) rfl rfl ?_
                have h107 : 0 ≤ mL4.1 23 ∧ mL4.1 23 ≤ 200 := hmL4.1 23
                have h108 : mL4.1 23 = m.1 23 := hfL4.1 23 rfl
                refine g_getf (v := vI (mL4.1 23)) rfl (kl_61 _) rfl ?_
                refine g_icmp_ge (by omega) (by omega) (by omega) (by omega) rfl ?_ ?_
                · intro kk109
                  refine g_aload_n (n := 0) rfl rfl ?_
                  refine g_aload_n (n := 0) rfl rfl ?_
                  refine g_getf (v := vI (mL4.1 31)) rfl (kl_61 _) rfl ?_
                  refine g_putF (m' := (kF mL4 33 (mL4.1 31))) rfl (kl_61 _) rfl rfl rfl rfl (kF_33 _ _) ?_
                  have hm110 : kI (kF mL4 33 (mL4.1 31)) := kI_F hmL4 33 (show (0 : Int) ≤ mL4.1 31 by omega) (show mL4.1 31 ≤ (200 : Int) by omega)
                  have hf111 : fr [31, 32, 33] [] m (kF mL4 33 (mL4.1 31)) := fr_F hfL4 33 _ rfl
                  refine g_vret rfl rfl ?_
                  have hs4 := srt_sp (m.2.1 64 (mL4.1 31))
                  have e5 : m.2.1 64 (mL4.1 32) = m.2.1 64 (SK (m.2.1 64) (m.1 23) (m.1 31)) := by rw [kS]
                  have hE : mL4.1 31 = EP (m.2.1 64) (m.1 23) (m.1 31) := by
                    show _ = TE (m.2.1 64) (m.1 23) (SK (m.2.1 64) (m.1 23) (m.1 31))
                    rcases kC with q1 | ⟨q0, q1 | q1⟩
                    · rw [TE_0 q1.1]; omega
                    · rw [TE_1 q0 q1.1]; omega
                    · rw [TE_2 q0 rfl q1.1, ← q1.2]; exact (RN_out (by omega)).symm
                  exact ⟨_, rfl, hm110, hf111, kS, hE, hE⟩
                · intro kk112
                  refine g_aload_n (n := 0) rfl rfl ?_
                  refine g_getf (v := vR 64) rfl (kl_61 _) rfl ?_
                  refine g_aload_n (n := 0) rfl rfl ?_
                  have h113 : 0 ≤ mL4.1 32 ∧ mL4.1 32 ≤ 200 := hmL4.1 32
                  refine g_getf (v := vI (mL4.1 32)) rfl (kl_61 _) rfl ?_
                  have h114 : 0 ≤ mL4.2.1 64 (mL4.1 32) ∧ mL4.2.1 64 (mL4.1 32) ≤ 255 := hmL4.2 64 (mL4.1 32) (by omega) (show mL4.1 32 < (200 : Int) by omega)
                  have h115 : mL4.2.1 64 (mL4.1 32) = m.2.1 64 (mL4.1 32) := congrFun (hfL4.2.1 64 rfl) _
                  refine g_iald (f := mL4.2.1 64) rfl (kl_64 _) (by decide) (by omega) (by omega) ?_
                  refine c_sI (ps := [vI (mL4.2.1 64 (mL4.1 32))]) (r := []) (as := [vI (mL4.2.1 64 (mL4.1 32))]) (cs' := 0) (sl' := 0) rfl rfl rfl rfl rfl rfl (d_sort (d := d - 1) (q := q - (1 + 19)) (by omega) (by omega) hmL4 (c := mL4.2.1 64 (mL4.1 32)) (show (-2147483648) ≤ mL4.2.1 64 (mL4.1 32) ∧ mL4.2.1 64 (mL4.1 32) ≤ 2147483647 by omega)) (by omega) (show 1 + 19 ≤ q by omega) (Nat.le_of_ble_eq_true rfl) (Nat.le_of_ble_eq_true rfl) rfl rfl rfl ?_
                  rintro z116 m117 ⟨rfl, p119⟩
                  refine g_if_le (by omega) (by omega) rfl ?_ ?_
                  · intro kk120
                    refine g_aload_n (n := 0) rfl rfl ?_
                    refine g_aload_n (n := 0) rfl rfl ?_
                    refine g_getf (v := vI (mL4.1 31)) rfl (kl_61 _) rfl ?_
                    refine g_putF (m' := (kF mL4 33 (mL4.1 31))) rfl (kl_61 _) rfl rfl rfl rfl (kF_33 _ _) ?_
                    have hm121 : kI (kF mL4 33 (mL4.1 31)) := kI_F hmL4 33 (show (0 : Int) ≤ mL4.1 31 by omega) (show mL4.1 31 ≤ (200 : Int) by omega)
                    have hf122 : fr [31, 32, 33] [] m (kF mL4 33 (mL4.1 31)) := fr_F hfL4 33 _ rfl
                    refine g_vret rfl rfl ?_
                    have hs4 := srt_sp (m.2.1 64 (mL4.1 31))
                    have e5 : m.2.1 64 (mL4.1 32) = m.2.1 64 (SK (m.2.1 64) (m.1 23) (m.1 31)) := by rw [kS]
                    have hE : mL4.1 31 = EP (m.2.1 64) (m.1 23) (m.1 31) := by
                      show _ = TE (m.2.1 64) (m.1 23) (SK (m.2.1 64) (m.1 23) (m.1 31))
                      rcases kC with q1 | ⟨q0, q1 | q1⟩
                      · rw [TE_0 q1.1]; omega
                      · rw [TE_1 q0 q1.1]; omega
                      · rw [TE_2 q0 rfl q1.1, ← q1.2]; exact (RN_out (by omega)).symm
                    exact ⟨_, rfl, hm121, hf122, kS, hE, hE⟩
                  · intro kk123
                    refine g_aload_n (n := 0) rfl rfl ?_
                    refine g_getf (v := vR 64) rfl (kl_61 _) rfl ?_
                    refine g_aload_n (n := 0) rfl rfl ?_
                    refine g_getf (v := vI (mL4.1 31)) rfl (kl_61 _) rfl ?_
                    have h124 : 0 ≤ mL4.2.1 64 (mL4.1 31) ∧ mL4.2.1 64 (mL4.1 31) ≤ 255 := hmL4.2 64 (mL4.1 31) (by omega) (show mL4.1 31 < (200 : Int) by omega)
                    have h125 : mL4.2.1 64 (mL4.1 31) = m.2.1 64 (mL4.1 31) := congrFun (hfL4.2.1 64 rfl) _
                    refine g_iald (f := mL4.2.1 64) rfl (kl_64 _) (by decide) (by omega) (by omega) ?_
                    refine c_sI (ps := [vI (mL4.2.1 64 (mL4.1 31))]) (r := []) (as := [vI (mL4.2.1 64 (mL4.1 31))]) (cs' := 0) (sl' := 0) rfl rfl rfl rfl rfl rfl (d_sort (d := d - 1) (q := q - (1 + 19)) (by omega) (by omega) hmL4 (c := mL4.2.1 64 (mL4.1 31)) (show (-2147483648) ≤ mL4.2.1 64 (mL4.1 31) ∧ mL4.2.1 64 (mL4.1 31) ≤ 2147483647 by omega)) (by omega) (show 1 + 19 ≤ q by omega) (Nat.le_of_ble_eq_true rfl) (Nat.le_of_ble_eq_true rfl) rfl rfl rfl ?_
                    rintro z126 m127 ⟨rfl, p129⟩
                    refine g_aload_n (n := 0) rfl rfl ?_
                    refine g_getf (v := vR 64) rfl (kl_61 _) rfl ?_
                    refine g_aload_n (n := 0) rfl rfl ?_
                    refine g_getf (v := vI (mL4.1 32)) rfl (kl_61 _) rfl ?_
                    have h130 : 0 ≤ mL4.2.1 64 (mL4.1 32) ∧ mL4.2.1 64 (mL4.1 32) ≤ 255 := hmL4.2 64 (mL4.1 32) (by omega) (show mL4.1 32 < (200 : Int) by omega)
                    have h131 : mL4.2.1 64 (mL4.1 32) = m.2.1 64 (mL4.1 32) := congrFun (hfL4.2.1 64 rfl) _
                    refine g_iald (f := mL4.2.1 64) rfl (kl_64 _) (by decide) (by omega) (by omega) ?_
                    refine c_sI (ps := [vI (mL4.2.1 64 (mL4.1 32))]) (r := [vI z126]) (as := [vI (mL4.2.1 64 (mL4.1 32))]) (cs' := 0) (sl' := 0) rfl rfl rfl rfl rfl rfl (d_sort (d := d - 1) (q := q - (1 + 19)) (by omega) (by omega) hmL4 (c := mL4.2.1 64 (mL4.1 32)) (show (-2147483648) ≤ mL4.2.1 64 (mL4.1 32) ∧ mL4.2.1 64 (mL4.1 32) ≤ 2147483647 by omega)) (by omega) (show 1 + 19 ≤ q by omega) (Nat.le_of_ble_eq_true rfl) (Nat.le_of_ble_eq_true rfl) rfl rfl rfl ?_
                    rintro z132 m133 ⟨rfl, p135⟩
                    refine g_icmp_ne (by omega) (by omega) (by omega) (by omega) rfl ?_ ?_
                    · intro kk136
                      refine g_aload_n (n := 0) rfl rfl ?_
                      refine g_aload_n (n := 0) rfl rfl ?_
                      refine g_getf (v := vI (mL4.1 31)) rfl (kl_61 _) rfl ?_
                      refine g_putF (m' := (kF mL4 33 (mL4.1 31))) rfl (kl_61 _) rfl rfl rfl rfl (kF_33 _ _) ?_
                      have hm137 : kI (kF mL4 33 (mL4.1 31)) := kI_F hmL4 33 (show (0 : Int) ≤ mL4.1 31 by omega) (show mL4.1 31 ≤ (200 : Int) by omega)
                      have hf138 : fr [31, 32, 33] [] m (kF mL4 33 (mL4.1 31)) := fr_F hfL4 33 _ rfl
                      refine g_vret rfl rfl ?_
                      have hs4 := srt_sp (m.2.1 64 (mL4.1 31))
                      have e5 : m.2.1 64 (mL4.1 32) = m.2.1 64 (SK (m.2.1 64) (m.1 23) (m.1 31)) := by rw [kS]
                      have hE : mL4.1 31 = EP (m.2.1 64) (m.1 23) (m.1 31) := by
                        show _ = TE (m.2.1 64) (m.1 23) (SK (m.2.1 64) (m.1 23) (m.1 31))
                        rcases kC with q1 | ⟨q0, q1 | q1⟩
                        · rw [TE_0 q1.1]; omega
                        · rw [TE_1 q0 q1.1]; omega
                        · rw [TE_2 q0 rfl q1.1, ← q1.2]; exact (RN_out (by omega)).symm
                      exact ⟨_, rfl, hm137, hf138, kS, hE, hE⟩
                    · intro kk139
                      have hs4 := srt_sp (m.2.1 64 (mL4.1 31))
                      have e5 : m.2.1 64 (mL4.1 32) = m.2.1 64 (SK (m.2.1 64) (m.1 23) (m.1 31)) := by rw [kS]
                      have hkn : (m.1 23 ≤ (SK (m.2.1 64) (m.1 23) (m.1 31)) ∧ (mL4.1 31 + 1) = (SK (m.2.1 64) (m.1 23) (m.1 31))) ∨ ((SK (m.2.1 64) (m.1 23) (m.1 31)) < m.1 23 ∧ ((srt (m.2.1 64 (SK (m.2.1 64) (m.1 23) (m.1 31))) = 0 ∧ (mL4.1 31 + 1) = (SK (m.2.1 64) (m.1 23) (m.1 31)) + 1) ∨ (srt (m.2.1 64 (SK (m.2.1 64) (m.1 23) (m.1 31))) ≠ 0 ∧ RN (m.2.1 64) (m.1 23) (srt (m.2.1 64 (SK (m.2.1 64) (m.1 23) (m.1 31)))) ((mL4.1 31 + 1)) = RN (m.2.1 64) (m.1 23) (srt (m.2.1 64 (SK (m.2.1 64) (m.1 23) (m.1 31)))) ((SK (m.2.1 64) (m.1 23) (m.1 31)) + 1)))) := by
                        rcases kC with q1 | ⟨q0, q1 | q1⟩
                        · exfalso; omega
                        · exfalso; omega
                        · exact Or.inr ⟨q0, Or.inr ⟨q1.1, by rw [← RN_in (by omega) (show srt (m.2.1 64 (mL4.1 31)) = srt (m.2.1 64 (SK (m.2.1 64) (m.1 23) (m.1 31))) by omega)]; exact q1.2⟩⟩
                      refine g_aload_n (n := 0) rfl rfl ?_
                      refine g_dup rfl rfl ?_
                      refine g_getf (v := vI (mL4.1 31)) rfl (kl_61 _) rfl ?_
                      refine g_iconst rfl ?_
                      refine g_iadd rfl ?_
                      refine g_putF (m' := (kF mL4 31 (mL4.1 31 + 1))) rfl (kl_61 _) rfl rfl rfl rfl (kF_31 _ _) ?_
                      have hm140 : kI (kF mL4 31 (mL4.1 31 + 1)) := kI_F hmL4 31 (show (0 : Int) ≤ (mL4.1 31 + 1) by omega) (show (mL4.1 31 + 1) ≤ (200 : Int) by omega)
                      have hf141 : fr [31, 32, 33] [] m (kF mL4 31 (mL4.1 31 + 1)) := fr_F hfL4 31 _ rfl
                      refine g_goto rfl ?_
                      have h142 : (kF mL4 31 (mL4.1 31 + 1)).1 31 = (mL4.1 31 + 1) := rfl
                      exact ih71_4 _ (by omega)  (kF mL4 31 (mL4.1 31 + 1)) hm140 hf141 hkn (by omega) kS (by omega) rfl
            have h143 : (kF (kF mL1 32 (mL1.1 31)) 31 (mL1.1 31 + 0)).1 31 = (mL1.1 31 + 0) := rfl
            have h144 : (kF (kF mL1 32 (mL1.1 31)) 31 (mL1.1 31 + 0)).1 32 = mL1.1 31 := rfl
            exact L71_4 _  (kF (kF mL1 32 (mL1.1 31)) 31 (mL1.1 31 + 0)) hm103 hf104 hk0 (by omega) hs0 (by omega) rfl
          · intro kk145
            refine g_iconst rfl ?_
            refine g_goto rfl ?_
            refine g_iadd rfl ?_
            refine g_putF (m' := (kF (kF mL1 32 (mL1.1 31)) 31 (mL1.1 31 + 1))) rfl (kl_61 _) rfl rfl rfl rfl (kF_31 _ _) ?_
            have hm146 : kI (kF (kF mL1 32 (mL1.1 31)) 31 (mL1.1 31 + 1)) := kI_F hm100 31 (show (0 : Int) ≤ (mL1.1 31 + 1) by omega) (show (mL1.1 31 + 1) ≤ (200 : Int) by omega)
            have hf147 : fr [31, 32, 33] [] m (kF (kF mL1 32 (mL1.1 31)) 31 (mL1.1 31 + 1)) := fr_F hf101 31 _ rfl
            have hk0 : (m.1 23 ≤ (SK (m.2.1 64) (m.1 23) (m.1 31)) ∧ (mL1.1 31 + 1) = (SK (m.2.1 64) (m.1 23) (m.1 31))) ∨ ((SK (m.2.1 64) (m.1 23) (m.1 31)) < m.1 23 ∧ ((srt (m.2.1 64 (SK (m.2.1 64) (m.1 23) (m.1 31))) = 0 ∧ (mL1.1 31 + 1) = (SK (m.2.1 64) (m.1 23) (m.1 31)) + 1) ∨ (srt (m.2.1 64 (SK (m.2.1 64) (m.1 23) (m.1 31))) ≠ 0 ∧ RN (m.2.1 64) (m.1 23) (srt (m.2.1 64 (SK (m.2.1 64) (m.1 23) (m.1 31)))) ((mL1.1 31 + 1)) = RN (m.2.1 64) (m.1 23) (srt (m.2.1 64 (SK (m.2.1 64) (m.1 23) (m.1 31)))) ((SK (m.2.1 64) (m.1 23) (m.1 31)) + 1)))) := by
              by_cases q1 : m.1 23 ≤ (SK (m.2.1 64) (m.1 23) (m.1 31))
              · exact Or.inl ⟨q1, by omega⟩
              · refine Or.inr ⟨by omega, ?_⟩; by_cases q2 : srt (m.2.1 64 (SK (m.2.1 64) (m.1 23) (m.1 31))) = 0; exact Or.inl ⟨q2, by omega⟩; exact Or.inr ⟨q2, by rw [show (mL1.1 31 + 1) = (SK (m.2.1 64) (m.1 23) (m.1 31)) + 1 by omega]⟩
            have L71_5 : ∀ (n71_5 : Nat)  (mL5 : kM), (kI mL5) → (fr [31, 32, 33] [] m mL5) → ((m.1 23 ≤ (SK (m.2.1 64) (m.1 23) (m.1 31)) ∧ mL5.1 31 = (SK (m.2.1 64) (m.1 23) (m.1 31))) ∨ ((SK (m.2.1 64) (m.1 23) (m.1 31)) < m.1 23 ∧ ((srt (m.2.1 64 (SK (m.2.1 64) (m.1 23) (m.1 31))) = 0 ∧ mL5.1 31 = (SK (m.2.1 64) (m.1 23) (m.1 31)) + 1) ∨ (srt (m.2.1 64 (SK (m.2.1 64) (m.1 23) (m.1 31))) ≠ 0 ∧ RN (m.2.1 64) (m.1 23) (srt (m.2.1 64 (SK (m.2.1 64) (m.1 23) (m.1 31)))) (mL5.1 31) = RN (m.2.1 64) (m.1 23) (srt (m.2.1 64 (SK (m.2.1 64) (m.1 23) (m.1 31)))) ((SK (m.2.1 64) (m.1 23) (m.1 31)) + 1))))) → (mL5.1 31 ≤ m.1 23) → (mL5.1 32 = (SK (m.2.1 64) (m.1 23) (m.1 31))) → ((SK (m.2.1 64) (m.1 23) (m.1 31)) ≤ mL5.1 31) → ((200 - mL5.1 31).toNat) = n71_5 → cg_G V mX10_token d q (R_V (fun m' => (kI m') ∧ (fr [31, 32, 33] [] m m') ∧ (m'.1 32 = (SK (m.2.1 64) (m.1 23) (m.1 31))) ∧ (m'.1 33 = EP (m.2.1 64) (m.1 23) (m.1 31)) ∧ (m'.1 31 = EP (m.2.1 64) (m.1 23) (m.1 31)))) 71 [(0, vR 61)] [] (kl mL5) 0 0 := by
              intro n71_5
              induction n71_5 using Nat.strongRecOn with
              | _ n71_5 ih71_5 =>
                intro mL5 hmL5 hfL5 kC kL kS kG q148
                refine g_aload_n (n := 0) rfl rfl ?_
                have h149 : 0 ≤ mL5.1 31 ∧ mL5.1 31 ≤ 200 := hmL5.1 31
                refine g_getf (v := vI (mL5.1 31)) rfl (kl_61 _) rfl ?_
                refine g_aload_n (n := 0) rfl rfl ?_
                have h150 : 0 ≤ mL5.1 23 ∧ mL5.1 23 ≤ 200 := hmL5.1 23
                have h151 : mL5.1 23 = m.1 23 := hfL5.1 23 rfl
                refine g_getf (v := vI (mL5.1 23)) rfl (kl_61 _) rfl ?_
                refine g_icmp_ge (by omega) (by omega) (by omega) (by omega) rfl ?_ ?_
                · intro kk152
                  refine g_aload_n (n := 0) rfl rfl ?_
                  refine g_aload_n (n := 0) rfl rfl ?_
                  refine g_getf (v := vI (mL5.1 31)) rfl (kl_61 _) rfl ?_
                  refine g_putF (m' := (kF mL5 33 (mL5.1 31))) rfl (kl_61 _) rfl rfl rfl rfl (kF_33 _ _) ?_
                  have hm153 : kI (kF mL5 33 (mL5.1 31)) := kI_F hmL5 33 (show (0 : Int) ≤ mL5.1 31 by omega) (show mL5.1 31 ≤ (200 : Int) by omega)
                  have hf154 : fr [31, 32, 33] [] m (kF mL5 33 (mL5.1 31)) := fr_F hfL5 33 _ rfl
                  refine g_vret rfl rfl ?_
                  have hs4 := srt_sp (m.2.1 64 (mL5.1 31))
                  have e5 : m.2.1 64 (mL5.1 32) = m.2.1 64 (SK (m.2.1 64) (m.1 23) (m.1 31)) := by rw [kS]
                  have hE : mL5.1 31 = EP (m.2.1 64) (m.1 23) (m.1 31) := by
                    show _ = TE (m.2.1 64) (m.1 23) (SK (m.2.1 64) (m.1 23) (m.1 31))
                    rcases kC with q1 | ⟨q0, q1 | q1⟩
                    · rw [TE_0 q1.1]; omega
                    · rw [TE_1 q0 q1.1]; omega
                    · rw [TE_2 q0 rfl q1.1, ← q1.2]; exact (RN_out (by omega)).symm
                  exact ⟨_, rfl, hm153, hf154, kS, hE, hE⟩
                · intro kk155
                  refine g_aload_n (n := 0) rfl rfl ?_
                  refine g_getf (v := vR 64) rfl (kl_61 _) rfl ?_
                  refine g_aload_n (n := 0) rfl rfl ?_
                  have h156 : 0 ≤ mL5.1 32 ∧ mL5.1 32 ≤ 200 := hmL5.1 32
                  refine g_getf (v := vI (mL5.1 32)) rfl (kl_61 _) rfl ?_
                  have h157 : 0 ≤ mL5.2.1 64 (mL5.1 32) ∧ mL5.2.1 64 (mL5.1 32) ≤ 255 := hmL5.2 64 (mL5.1 32) (by omega) (show mL5.1 32 < (200 : Int) by omega)
                  have h158 : mL5.2.1 64 (mL5.1 32) = m.2.1 64 (mL5.1 32) := congrFun (hfL5.2.1 64 rfl) _
                  refine g_iald (f := mL5.2.1 64) rfl (kl_64 _) (by decide) (by omega) (by omega) ?_
                  refine c_sI (ps := [vI (mL5.2.1 64 (mL5.1 32))]) (r := []) (as := [vI (mL5.2.1 64 (mL5.1 32))]) (cs' := 0) (sl' := 0) rfl rfl rfl rfl rfl rfl (d_sort (d := d - 1) (q := q - (1 + 19)) (by omega) (by omega) hmL5 (c := mL5.2.1 64 (mL5.1 32)) (show (-2147483648) ≤ mL5.2.1 64 (mL5.1 32) ∧ mL5.2.1 64 (mL5.1 32) ≤ 2147483647 by omega)) (by omega) (show 1 + 19 ≤ q by omega) (Nat.le_of_ble_eq_true rfl) (Nat.le_of_ble_eq_true rfl) rfl rfl rfl ?_
                  rintro z159 m160 ⟨rfl, p162⟩
                  refine g_if_le (by omega) (by omega) rfl ?_ ?_
                  · intro kk163
                    refine g_aload_n (n := 0) rfl rfl ?_
                    refine g_aload_n (n := 0) rfl rfl ?_
                    refine g_getf (v := vI (mL5.1 31)) rfl (kl_61 _) rfl ?_
                    refine g_putF (m' := (kF mL5 33 (mL5.1 31))) rfl (kl_61 _) rfl rfl rfl rfl (kF_33 _ _) ?_
                    have hm164 : kI (kF mL5 33 (mL5.1 31)) := kI_F hmL5 33 (show (0 : Int) ≤ mL5.1 31 by omega) (show mL5.1 31 ≤ (200 : Int) by omega)
                    have hf165 : fr [31, 32, 33] [] m (kF mL5 33 (mL5.1 31)) := fr_F hfL5 33 _ rfl
                    refine g_vret rfl rfl ?_
                    have hs4 := srt_sp (m.2.1 64 (mL5.1 31))
                    have e5 : m.2.1 64 (mL5.1 32) = m.2.1 64 (SK (m.2.1 64) (m.1 23) (m.1 31)) := by rw [kS]
                    have hE : mL5.1 31 = EP (m.2.1 64) (m.1 23) (m.1 31) := by
                      show _ = TE (m.2.1 64) (m.1 23) (SK (m.2.1 64) (m.1 23) (m.1 31))
                      rcases kC with q1 | ⟨q0, q1 | q1⟩
                      · rw [TE_0 q1.1]; omega
                      · rw [TE_1 q0 q1.1]; omega
                      · rw [TE_2 q0 rfl q1.1, ← q1.2]; exact (RN_out (by omega)).symm
                    exact ⟨_, rfl, hm164, hf165, kS, hE, hE⟩
                  · intro kk166
                    refine g_aload_n (n := 0) rfl rfl ?_
                    refine g_getf (v := vR 64) rfl (kl_61 _) rfl ?_
                    refine g_aload_n (n := 0) rfl rfl ?_
                    refine g_getf (v := vI (mL5.1 31)) rfl (kl_61 _) rfl ?_
                    have h167 : 0 ≤ mL5.2.1 64 (mL5.1 31) ∧ mL5.2.1 64 (mL5.1 31) ≤ 255 := hmL5.2 64 (mL5.1 31) (by omega) (show mL5.1 31 < (200 : Int) by omega)
                    have h168 : mL5.2.1 64 (mL5.1 31) = m.2.1 64 (mL5.1 31) := congrFun (hfL5.2.1 64 rfl) _
                    refine g_iald (f := mL5.2.1 64) rfl (kl_64 _) (by decide) (by omega) (by omega) ?_
                    refine c_sI (ps := [vI (mL5.2.1 64 (mL5.1 31))]) (r := []) (as := [vI (mL5.2.1 64 (mL5.1 31))]) (cs' := 0) (sl' := 0) rfl rfl rfl rfl rfl rfl (d_sort (d := d - 1) (q := q - (1 + 19)) (by omega) (by omega) hmL5 (c := mL5.2.1 64 (mL5.1 31)) (show (-2147483648) ≤ mL5.2.1 64 (mL5.1 31) ∧ mL5.2.1 64 (mL5.1 31) ≤ 2147483647 by omega)) (by omega) (show 1 + 19 ≤ q by omega) (Nat.le_of_ble_eq_true rfl) (Nat.le_of_ble_eq_true rfl) rfl rfl rfl ?_
                    rintro z169 m170 ⟨rfl, p172⟩
                    refine g_aload_n (n := 0) rfl rfl ?_
                    refine g_getf (v := vR 64) rfl (kl_61 _) rfl ?_
                    refine g_aload_n (n := 0) rfl rfl ?_
                    refine g_getf (v := vI (mL5.1 32)) rfl (kl_61 _) rfl ?_
                    have h173 : 0 ≤ mL5.2.1 64 (mL5.1 32) ∧ mL5.2.1 64 (mL5.1 32) ≤ 255 := hmL5.2 64 (mL5.1 32) (by omega) (show mL5.1 32 < (200 : Int) by omega)
                    have h174 : mL5.2.1 64 (mL5.1 32) = m.2.1 64 (mL5.1 32) := congrFun (hfL5.2.1 64 rfl) _
                    refine g_iald (f := mL5.2.1 64) rfl (kl_64 _) (by decide) (by omega) (by omega) ?_
                    refine c_sI (ps := [vI (mL5.2.1 64 (mL5.1 32))]) (r := [vI z169]) (as := [vI (mL5.2.1 64 (mL5.1 32))]) (cs' := 0) (sl' := 0) rfl rfl rfl rfl rfl rfl (d_sort (d := d - 1) (q := q - (1 + 19)) (by omega) (by omega) hmL5 (c := mL5.2.1 64 (mL5.1 32)) (show (-2147483648) ≤ mL5.2.1 64 (mL5.1 32) ∧ mL5.2.1 64 (mL5.1 32) ≤ 2147483647 by omega)) (by omega) (show 1 + 19 ≤ q by omega) (Nat.le_of_ble_eq_true rfl) (Nat.le_of_ble_eq_true rfl) rfl rfl rfl ?_
                    rintro z175 m176 ⟨rfl, p178⟩
                    refine g_icmp_ne (by omega) (by omega) (by omega) (by omega) rfl ?_ ?_
                    · intro kk179
                      refine g_aload_n (n := 0) rfl rfl ?_
                      refine g_aload_n (n := 0) rfl rfl ?_
                      refine g_getf (v := vI (mL5.1 31)) rfl (kl_61 _) rfl ?_
                      refine g_putF (m' := (kF mL5 33 (mL5.1 31))) rfl (kl_61 _) rfl rfl rfl rfl (kF_33 _ _) ?_
                      have hm180 : kI (kF mL5 33 (mL5.1 31)) := kI_F hmL5 33 (show (0 : Int) ≤ mL5.1 31 by omega) (show mL5.1 31 ≤ (200 : Int) by omega)
                      have hf181 : fr [31, 32, 33] [] m (kF mL5 33 (mL5.1 31)) := fr_F hfL5 33 _ rfl
                      refine g_vret rfl rfl ?_
                      have hs4 := srt_sp (m.2.1 64 (mL5.1 31))
                      have e5 : m.2.1 64 (mL5.1 32) = m.2.1 64 (SK (m.2.1 64) (m.1 23) (m.1 31)) := by rw [kS]
                      have hE : mL5.1 31 = EP (m.2.1 64) (m.1 23) (m.1 31) := by
                        show _ = TE (m.2.1 64) (m.1 23) (SK (m.2.1 64) (m.1 23) (m.1 31))
                        rcases kC with q1 | ⟨q0, q1 | q1⟩
                        · rw [TE_0 q1.1]; omega
                        · rw [TE_1 q0 q1.1]; omega
                        · rw [TE_2 q0 rfl q1.1, ← q1.2]; exact (RN_out (by omega)).symm
                      exact ⟨_, rfl, hm180, hf181, kS, hE, hE⟩
                    · intro kk182
                      have hs4 := srt_sp (m.2.1 64 (mL5.1 31))
                      have e5 : m.2.1 64 (mL5.1 32) = m.2.1 64 (SK (m.2.1 64) (m.1 23) (m.1 31)) := by rw [kS]
                      have hkn : (m.1 23 ≤ (SK (m.2.1 64) (m.1 23) (m.1 31)) ∧ (mL5.1 31 + 1) = (SK (m.2.1 64) (m.1 23) (m.1 31))) ∨ ((SK (m.2.1 64) (m.1 23) (m.1 31)) < m.1 23 ∧ ((srt (m.2.1 64 (SK (m.2.1 64) (m.1 23) (m.1 31))) = 0 ∧ (mL5.1 31 + 1) = (SK (m.2.1 64) (m.1 23) (m.1 31)) + 1) ∨ (srt (m.2.1 64 (SK (m.2.1 64) (m.1 23) (m.1 31))) ≠ 0 ∧ RN (m.2.1 64) (m.1 23) (srt (m.2.1 64 (SK (m.2.1 64) (m.1 23) (m.1 31)))) ((mL5.1 31 + 1)) = RN (m.2.1 64) (m.1 23) (srt (m.2.1 64 (SK (m.2.1 64) (m.1 23) (m.1 31)))) ((SK (m.2.1 64) (m.1 23) (m.1 31)) + 1)))) := by
                        rcases kC with q1 | ⟨q0, q1 | q1⟩
                        · exfalso; omega
                        · exfalso; omega
                        · exact Or.inr ⟨q0, Or.inr ⟨q1.1, by rw [← RN_in (by omega) (show srt (m.2.1 64 (mL5.1 31)) = srt (m.2.1 64 (SK (m.2.1 64) (m.1 23) (m.1 31))) by omega)]; exact q1.2⟩⟩
                      refine g_aload_n (n := 0) rfl rfl ?_
                      refine g_dup rfl rfl ?_
                      refine g_getf (v := vI (mL5.1 31)) rfl (kl_61 _) rfl ?_
                      refine g_iconst rfl ?_
                      refine g_iadd rfl ?_
                      refine g_putF (m' := (kF mL5 31 (mL5.1 31 + 1))) rfl (kl_61 _) rfl rfl rfl rfl (kF_31 _ _) ?_
                      have hm183 : kI (kF mL5 31 (mL5.1 31 + 1)) := kI_F hmL5 31 (show (0 : Int) ≤ (mL5.1 31 + 1) by omega) (show (mL5.1 31 + 1) ≤ (200 : Int) by omega)
                      have hf184 : fr [31, 32, 33] [] m (kF mL5 31 (mL5.1 31 + 1)) := fr_F hfL5 31 _ rfl
                      refine g_goto rfl ?_
                      have h185 : (kF mL5 31 (mL5.1 31 + 1)).1 31 = (mL5.1 31 + 1) := rfl
                      exact ih71_5 _ (by omega)  (kF mL5 31 (mL5.1 31 + 1)) hm183 hf184 hkn (by omega) kS (by omega) rfl
            have h186 : (kF (kF mL1 32 (mL1.1 31)) 31 (mL1.1 31 + 1)).1 31 = (mL1.1 31 + 1) := rfl
            have h187 : (kF (kF mL1 32 (mL1.1 31)) 31 (mL1.1 31 + 1)).1 32 = mL1.1 31 := rfl
            exact L71_5 _  (kF (kF mL1 32 (mL1.1 31)) 31 (mL1.1 31 + 1)) hm146 hf147 hk0 (by omega) hs0 (by omega) rfl
        · intro kk188
          have hin : SK (m.2.1 64) (m.1 23) (mL1.1 31 + 1) = (SK (m.2.1 64) (m.1 23) (m.1 31)) := by rw [← SK_in (by omega) (by omega)]; exact iS
          refine g_aload_n (n := 0) rfl rfl ?_
          refine g_dup rfl rfl ?_
          refine g_getf (v := vI (mL1.1 31)) rfl (kl_61 _) rfl ?_
          refine g_iconst rfl ?_
          refine g_iadd rfl ?_
          refine g_putF (m' := (kF mL1 31 (mL1.1 31 + 1))) rfl (kl_61 _) rfl rfl rfl rfl (kF_31 _ _) ?_
          have hm189 : kI (kF mL1 31 (mL1.1 31 + 1)) := kI_F hmL1 31 (show (0 : Int) ≤ (mL1.1 31 + 1) by omega) (show (mL1.1 31 + 1) ≤ (200 : Int) by omega)
          have hf190 : fr [31, 32, 33] [] m (kF mL1 31 (mL1.1 31 + 1)) := fr_F hfL1 31 _ rfl
          refine g_goto rfl ?_
          have h191 : (kF mL1 31 (mL1.1 31 + 1)).1 31 = (mL1.1 31 + 1) := rfl
          exact ih0_1 _ (by omega)  (kF mL1 31 (mL1.1 31 + 1)) hm189 hf190 hin (by omega) rfl
  exact L0_1 _  m hm hf0 rfl he rfl
theorem d_isWord_0 {V : cg_V} {d q : Nat} (hd : 0 ≤ d) (hq : 0 ≤ q) {m : kM} (hm : kI m) {x : Int} (h_x : 14976400 ≤ x ∧ x ≤ 14976400) : cg_S V d q mX10_isWord [vR 61, vL x, vI 5] (kl m) (R_I (fun z m' => (m = m') ∧ ((z = 1 ∧ wd0 (m.2.1 64) (m.1 32) (m.1 33)) ∨ (z = 0 ∧ ¬ wd0 (m.2.1 64) (m.1 32) (m.1 33))))) := by
  refine cg_of (List.mem_of_getElem? (show ae_MT[126]? = some mX10_isWord from rfl)) (Nat.le_of_ble_eq_true rfl) ?_
  show cg_G V mX10_isWord d q _ 0 [(0, vR 61), (1, vL x), (3, vI 5)] [] (kl m) 0 0
  have h1 : 0 ≤ m.1 32 ∧ m.1 32 ≤ 200 := hm.1 32
  have h2 : 0 ≤ m.1 33 ∧ m.1 33 ≤ 200 := hm.1 33
  have h3 : x = 14976400 := by omega
  rcases h3 with rfl
  · refine g_aload_n (n := 0) rfl rfl ?_
    refine g_getf (v := vI (m.1 33)) rfl (kl_61 _) rfl ?_
    refine g_aload_n (n := 0) rfl rfl ?_
    refine g_getf (v := vI (m.1 32)) rfl (kl_61 _) rfl ?_
    refine g_isub rfl ?_
    refine g_iload_n (n := 3) rfl rfl ?_
    refine g_icmp_ne (by omega) (by omega) (by decide) (by decide) rfl ?_ ?_
    · intro kk4
      refine g_iconst rfl ?_
      refine g_istore (n := 4) (lo' := [(0, vR 61), (1, vL 14976400), (3, vI 5)]) rfl rfl ?_
      refine g_iconst rfl ?_
      refine g_istore (n := 5) (lo' := [(4, vI 0), (0, vR 61), (1, vL 14976400), (3, vI 5)]) rfl rfl ?_
      refine g_iload (n := 4) rfl rfl ?_
      refine g_if_eq (by decide) (by decide) rfl ?_ ?_
      · intro kk5
        refine g_iload (n := 4) rfl rfl ?_
        refine g_zret rfl rfl (by omega) ?_
        exact ⟨_, _, rfl, rfl, Or.inr ⟨rfl, by unfold wd0; omega⟩⟩
      · intro kk6
        exfalso; omega
    · intro kk7
      refine g_iconst rfl ?_
      refine g_goto rfl ?_
      refine g_istore (n := 4) (lo' := [(0, vR 61), (1, vL 14976400), (3, vI 5)]) rfl rfl ?_
      refine g_iconst rfl ?_
      refine g_istore (n := 5) (lo' := [(4, vI 1), (0, vR 61), (1, vL 14976400), (3, vI 5)]) rfl rfl ?_
      refine g_iload (n := 4) rfl rfl ?_
      refine g_if_eq (by decide) (by decide) rfl ?_ ?_
      · intro kk8
        exfalso; omega
      · intro kk9
        refine g_iload (n := 5) rfl rfl ?_
        refine g_iload_n (n := 3) rfl rfl ?_
        refine g_icmp_ge (by decide) (by decide) (by decide) (by decide) rfl ?_ ?_
        · intro kk10
          exfalso; omega
        · intro kk11
          refine g_aload_n (n := 0) rfl rfl ?_
          refine g_getf (v := vR 64) rfl (kl_61 _) rfl ?_
          refine g_aload_n (n := 0) rfl rfl ?_
          refine g_getf (v := vI (m.1 32)) rfl (kl_61 _) rfl ?_
          refine g_iload (n := 5) rfl rfl ?_
          refine g_iaddE (z := m.1 32) (by omega) rfl ?_
          have h12 : 0 ≤ m.2.1 64 (m.1 32) ∧ m.2.1 64 (m.1 32) ≤ 255 := hm.2 64 (m.1 32) (by omega) (show m.1 32 < (200 : Int) by omega)
          refine g_iald (f := m.2.1 64) rfl (kl_64 _) (by decide) (by omega) (by omega) ?_
          refine g_bipush (by decide) rfl ?_
          refine g_lload_n (n := 1) rfl rfl ?_
          refine g_iconst rfl ?_
          refine g_iload (n := 5) rfl rfl ?_
          refine g_imulE (z := 0) (by decide) rfl ?_
          refine g_lshr rfl ?_
          intro z13 h14 h15 h16
          have h17 : z13 = 14976400 := h14.trans (by decide +kernel)
          subst h17
          refine g_ldc2 (x := 31) (by decide) rfl ?_
          refine g_land rfl ?_
          intro z18 h19 h20 h21
          have h22 : z18 = 16 := h19.trans (by decide +kernel)
          subst h22
          refine g_l2i rfl ?_
          refine g_iaddE (z := 112) (by decide) rfl ?_
          refine g_icmp_ne (by omega) (by omega) (by decide) (by decide) rfl ?_ ?_
          · intro kk23
            refine g_iconst rfl ?_
            refine g_istore (n := 4) (lo' := [(5, vI 0), (0, vR 61), (1, vL 14976400), (3, vI 5)]) rfl rfl ?_
            refine g_iincE (z := 1) (by decide) (n := 5) (lo' := [(4, vI 0), (0, vR 61), (1, vL 14976400), (3, vI 5)]) rfl rfl rfl ?_
            refine g_goto rfl ?_
            refine g_iload (n := 4) rfl rfl ?_
            refine g_if_eq (by decide) (by decide) rfl ?_ ?_
            · intro kk24
              refine g_iload (n := 4) rfl rfl ?_
              refine g_zret rfl rfl (by omega) ?_
              exact ⟨_, _, rfl, rfl, Or.inr ⟨rfl, by unfold wd0; omega⟩⟩
            · intro kk25
              exfalso; omega
          · intro kk26
            refine g_iconst rfl ?_
            refine g_goto rfl ?_
            refine g_istore (n := 4) (lo' := [(5, vI 0), (0, vR 61), (1, vL 14976400), (3, vI 5)]) rfl rfl ?_
            refine g_iincE (z := 1) (by decide) (n := 5) (lo' := [(4, vI 1), (0, vR 61), (1, vL 14976400), (3, vI 5)]) rfl rfl rfl ?_
            refine g_goto rfl ?_
            refine g_iload (n := 4) rfl rfl ?_
            refine g_if_eq (by decide) (by decide) rfl ?_ ?_
            · intro kk27
              exfalso; omega
            · intro kk28
              refine g_iload (n := 5) rfl rfl ?_
              refine g_iload_n (n := 3) rfl rfl ?_
              refine g_icmp_ge (by decide) (by decide) (by decide) (by decide) rfl ?_ ?_
              · intro kk29
                exfalso; omega
              · intro kk30
                refine g_aload_n (n := 0) rfl rfl ?_
                refine g_getf (v := vR 64) rfl (kl_61 _) rfl ?_
                refine g_aload_n (n := 0) rfl rfl ?_
                refine g_getf (v := vI (m.1 32)) rfl (kl_61 _) rfl ?_
                refine g_iload (n := 5) rfl rfl ?_
                refine g_iadd rfl ?_
                have h31 : 0 ≤ m.2.1 64 (m.1 32 + 1) ∧ m.2.1 64 (m.1 32 + 1) ≤ 255 := hm.2 64 (m.1 32 + 1) (by omega) (show (m.1 32 + 1) < (200 : Int) by omega)
                refine g_iald (f := m.2.1 64) rfl (kl_64 _) (by decide) (by omega) (by omega) ?_
                refine g_bipush (by decide) rfl ?_
                refine g_lload_n (n := 1) rfl rfl ?_
                refine g_iconst rfl ?_
                refine g_iload (n := 5) rfl rfl ?_
                refine g_imulE (z := 5) (by decide) rfl ?_
                refine g_lshr rfl ?_
                intro z32 h33 h34 h35
                have h36 : z32 = 468012 := h33.trans (by decide +kernel)
                subst h36
                refine g_ldc2 (x := 31) (by decide) rfl ?_
                refine g_land rfl ?_
                intro z37 h38 h39 h40
                have h41 : z37 = 12 := h38.trans (by decide +kernel)
                subst h41
                refine g_l2i rfl ?_
                refine g_iaddE (z := 108) (by decide) rfl ?_
                refine g_icmp_ne (by omega) (by omega) (by decide) (by decide) rfl ?_ ?_
                · intro kk42
                  refine g_iconst rfl ?_
                  refine g_istore (n := 4) (lo' := [(5, vI 1), (0, vR 61), (1, vL 14976400), (3, vI 5)]) rfl rfl ?_
                  refine g_iincE (z := 2) (by decide) (n := 5) (lo' := [(4, vI 0), (0, vR 61), (1, vL 14976400), (3, vI 5)]) rfl rfl rfl ?_
                  refine g_goto rfl ?_
                  refine g_iload (n := 4) rfl rfl ?_
                  refine g_if_eq (by decide) (by decide) rfl ?_ ?_
                  · intro kk43
                    refine g_iload (n := 4) rfl rfl ?_
                    refine g_zret rfl rfl (by omega) ?_
                    exact ⟨_, _, rfl, rfl, Or.inr ⟨rfl, by unfold wd0; omega⟩⟩
                  · intro kk44
                    exfalso; omega
                · intro kk45
                  refine g_iconst rfl ?_
                  refine g_goto rfl ?_
                  refine g_istore (n := 4) (lo' := [(5, vI 1), (0, vR 61), (1, vL 14976400), (3, vI 5)]) rfl rfl ?_
                  refine g_iincE (z := 2) (by decide) (n := 5) (lo' := [(4, vI 1), (0, vR 61), (1, vL 14976400), (3, vI 5)]) rfl rfl rfl ?_
                  refine g_goto rfl ?_
                  refine g_iload (n := 4) rfl rfl ?_
                  refine g_if_eq (by decide) (by decide) rfl ?_ ?_
                  · intro kk46
                    exfalso; omega
                  · intro kk47
                    refine g_iload (n := 5) rfl rfl ?_
                    refine g_iload_n (n := 3) rfl rfl ?_
                    refine g_icmp_ge (by decide) (by decide) (by decide) (by decide) rfl ?_ ?_
                    · intro kk48
                      exfalso; omega
                    · intro kk49
                      refine g_aload_n (n := 0) rfl rfl ?_
                      refine g_getf (v := vR 64) rfl (kl_61 _) rfl ?_
                      refine g_aload_n (n := 0) rfl rfl ?_
                      refine g_getf (v := vI (m.1 32)) rfl (kl_61 _) rfl ?_
                      refine g_iload (n := 5) rfl rfl ?_
                      refine g_iadd rfl ?_
                      have h50 : 0 ≤ m.2.1 64 (m.1 32 + 2) ∧ m.2.1 64 (m.1 32 + 2) ≤ 255 := hm.2 64 (m.1 32 + 2) (by omega) (show (m.1 32 + 2) < (200 : Int) by omega)
                      refine g_iald (f := m.2.1 64) rfl (kl_64 _) (by decide) (by omega) (by omega) ?_
                      refine g_bipush (by decide) rfl ?_
                      refine g_lload_n (n := 1) rfl rfl ?_
                      refine g_iconst rfl ?_
                      refine g_iload (n := 5) rfl rfl ?_
                      refine g_imulE (z := 10) (by decide) rfl ?_
                      refine g_lshr rfl ?_
                      intro z51 h52 h53 h54
                      have h55 : z51 = 14625 := h52.trans (by decide +kernel)
                      subst h55
                      refine g_ldc2 (x := 31) (by decide) rfl ?_
                      refine g_land rfl ?_
                      intro z56 h57 h58 h59
                      have h60 : z56 = 1 := h57.trans (by decide +kernel)
                      subst h60
                      refine g_l2i rfl ?_
                      refine g_iaddE (z := 97) (by decide) rfl ?_
                      refine g_icmp_ne (by omega) (by omega) (by decide) (by decide) rfl ?_ ?_
                      · intro kk61
                        refine g_iconst rfl ?_
                        refine g_istore (n := 4) (lo' := [(5, vI 2), (0, vR 61), (1, vL 14976400), (3, vI 5)]) rfl rfl ?_
                        refine g_iincE (z := 3) (by decide) (n := 5) (lo' := [(4, vI 0), (0, vR 61), (1, vL 14976400), (3, vI 5)]) rfl rfl rfl ?_
                        refine g_goto rfl ?_
                        refine g_iload (n := 4) rfl rfl ?_
                        refine g_if_eq (by decide) (by decide) rfl ?_ ?_
                        · intro kk62
                          refine g_iload (n := 4) rfl rfl ?_
                          refine g_zret rfl rfl (by omega) ?_
                          exact ⟨_, _, rfl, rfl, Or.inr ⟨rfl, by unfold wd0; omega⟩⟩
                        · intro kk63
                          exfalso; omega
                      · intro kk64
                        refine g_iconst rfl ?_
                        refine g_goto rfl ?_
                        refine g_istore (n := 4) (lo' := [(5, vI 2), (0, vR 61), (1, vL 14976400), (3, vI 5)]) rfl rfl ?_
                        refine g_iincE (z := 3) (by decide) (n := 5) (lo' := [(4, vI 1), (0, vR 61), (1, vL 14976400), (3, vI 5)]) rfl rfl rfl ?_
                        refine g_goto rfl ?_
                        refine g_iload (n := 4) rfl rfl ?_
                        refine g_if_eq (by decide) (by decide) rfl ?_ ?_
                        · intro kk65
                          exfalso; omega
                        · intro kk66
                          refine g_iload (n := 5) rfl rfl ?_
                          refine g_iload_n (n := 3) rfl rfl ?_
                          refine g_icmp_ge (by decide) (by decide) (by decide) (by decide) rfl ?_ ?_
                          · intro kk67
                            exfalso; omega
                          · intro kk68
                            refine g_aload_n (n := 0) rfl rfl ?_
                            refine g_getf (v := vR 64) rfl (kl_61 _) rfl ?_
                            refine g_aload_n (n := 0) rfl rfl ?_
                            refine g_getf (v := vI (m.1 32)) rfl (kl_61 _) rfl ?_
                            refine g_iload (n := 5) rfl rfl ?_
                            refine g_iadd rfl ?_
                            have h69 : 0 ≤ m.2.1 64 (m.1 32 + 3) ∧ m.2.1 64 (m.1 32 + 3) ≤ 255 := hm.2 64 (m.1 32 + 3) (by omega) (show (m.1 32 + 3) < (200 : Int) by omega)
                            refine g_iald (f := m.2.1 64) rfl (kl_64 _) (by decide) (by omega) (by omega) ?_
                            refine g_bipush (by decide) rfl ?_
                            refine g_lload_n (n := 1) rfl rfl ?_
                            refine g_iconst rfl ?_
                            refine g_iload (n := 5) rfl rfl ?_
                            refine g_imulE (z := 15) (by decide) rfl ?_
                            refine g_lshr rfl ?_
                            intro z70 h71 h72 h73
                            have h74 : z70 = 457 := h71.trans (by decide +kernel)
                            subst h74
                            refine g_ldc2 (x := 31) (by decide) rfl ?_
                            refine g_land rfl ?_
                            intro z75 h76 h77 h78
                            have h79 : z75 = 9 := h76.trans (by decide +kernel)
                            subst h79
                            refine g_l2i rfl ?_
                            refine g_iaddE (z := 105) (by decide) rfl ?_
                            refine g_icmp_ne (by omega) (by omega) (by decide) (by decide) rfl ?_ ?_
                            · intro kk80
                              refine g_iconst rfl ?_
                              refine g_istore (n := 4) (lo' := [(5, vI 3), (0, vR 61), (1, vL 14976400), (3, vI 5)]) rfl rfl ?_
                              refine g_iincE (z := 4) (by decide) (n := 5) (lo' := [(4, vI 0), (0, vR 61), (1, vL 14976400), (3, vI 5)]) rfl rfl rfl ?_
                              refine g_goto rfl ?_
                              refine g_iload (n := 4) rfl rfl ?_
                              refine g_if_eq (by decide) (by decide) rfl ?_ ?_
                              · intro kk81
                                refine g_iload (n := 4) rfl rfl ?_
                                refine g_zret rfl rfl (by omega) ?_
                                exact ⟨_, _, rfl, rfl, Or.inr ⟨rfl, by unfold wd0; omega⟩⟩
                              · intro kk82
                                exfalso; omega
                            · intro kk83
                              refine g_iconst rfl ?_
                              refine g_goto rfl ?_
                              refine g_istore (n := 4) (lo' := [(5, vI 3), (0, vR 61), (1, vL 14976400), (3, vI 5)]) rfl rfl ?_
                              refine g_iincE (z := 4) (by decide) (n := 5) (lo' := [(4, vI 1), (0, vR 61), (1, vL 14976400), (3, vI 5)]) rfl rfl rfl ?_
                              refine g_goto rfl ?_
                              refine g_iload (n := 4) rfl rfl ?_
                              refine g_if_eq (by decide) (by decide) rfl ?_ ?_
                              · intro kk84
                                exfalso; omega
                              · intro kk85
                                refine g_iload (n := 5) rfl rfl ?_
                                refine g_iload_n (n := 3) rfl rfl ?_
                                refine g_icmp_ge (by decide) (by decide) (by decide) (by decide) rfl ?_ ?_
                                · intro kk86
                                  exfalso; omega
                                · intro kk87
                                  refine g_aload_n (n := 0) rfl rfl ?_
                                  refine g_getf (v := vR 64) rfl (kl_61 _) rfl ?_
                                  refine g_aload_n (n := 0) rfl rfl ?_
                                  refine g_getf (v := vI (m.1 32)) rfl (kl_61 _) rfl ?_
                                  refine g_iload (n := 5) rfl rfl ?_
                                  refine g_iadd rfl ?_
                                  have h88 : 0 ≤ m.2.1 64 (m.1 32 + 4) ∧ m.2.1 64 (m.1 32 + 4) ≤ 255 := hm.2 64 (m.1 32 + 4) (by omega) (show (m.1 32 + 4) < (200 : Int) by omega)
                                  refine g_iald (f := m.2.1 64) rfl (kl_64 _) (by decide) (by omega) (by omega) ?_
                                  refine g_bipush (by decide) rfl ?_
                                  refine g_lload_n (n := 1) rfl rfl ?_
                                  refine g_iconst rfl ?_
                                  refine g_iload (n := 5) rfl rfl ?_
                                  refine g_imulE (z := 20) (by decide) rfl ?_
                                  refine g_lshr rfl ?_
                                  intro z89 h90 h91 h92
                                  have h93 : z89 = 14 := h90.trans (by decide +kernel)
                                  subst h93
                                  refine g_ldc2 (x := 31) (by decide) rfl ?_
                                  refine g_land rfl ?_
                                  intro z94 h95 h96 h97
                                  have h98 : z94 = 14 := h95.trans (by decide +kernel)
                                  subst h98
                                  refine g_l2i rfl ?_
                                  refine g_iaddE (z := 110) (by decide) rfl ?_
                                  refine g_icmp_ne (by omega) (by omega) (by decide) (by decide) rfl ?_ ?_
                                  · intro kk99
                                    refine g_iconst rfl ?_
                                    refine g_istore (n := 4) (lo' := [(5, vI 4), (0, vR 61), (1, vL 14976400), (3, vI 5)]) rfl rfl ?_
                                    refine g_iincE (z := 5) (by decide) (n := 5) (lo' := [(4, vI 0), (0, vR 61), (1, vL 14976400), (3, vI 5)]) rfl rfl rfl ?_
                                    refine g_goto rfl ?_
                                    refine g_iload (n := 4) rfl rfl ?_
                                    refine g_if_eq (by decide) (by decide) rfl ?_ ?_
                                    · intro kk100
                                      refine g_iload (n := 4) rfl rfl ?_
                                      refine g_zret rfl rfl (by omega) ?_
                                      exact ⟨_, _, rfl, rfl, Or.inr ⟨rfl, by unfold wd0; omega⟩⟩
                                    · intro kk101
                                      exfalso; omega
                                  · intro kk102
                                    refine g_iconst rfl ?_
                                    refine g_goto rfl ?_
                                    refine g_istore (n := 4) (lo' := [(5, vI 4), (0, vR 61), (1, vL 14976400), (3, vI 5)]) rfl rfl ?_
                                    refine g_iincE (z := 5) (by decide) (n := 5) (lo' := [(4, vI 1), (0, vR 61), (1, vL 14976400), (3, vI 5)]) rfl rfl rfl ?_
                                    refine g_goto rfl ?_
                                    refine g_iload (n := 4) rfl rfl ?_
                                    refine g_if_eq (by decide) (by decide) rfl ?_ ?_
                                    · intro kk103
                                      exfalso; omega
                                    · intro kk104
                                      refine g_iload (n := 5) rfl rfl ?_
                                      refine g_iload_n (n := 3) rfl rfl ?_
                                      refine g_icmp_ge (by decide) (by decide) (by decide) (by decide) rfl ?_ ?_
                                      · intro kk105
                                        refine g_iload (n := 4) rfl rfl ?_
                                        refine g_zret rfl rfl (by omega) ?_
                                        exact ⟨_, _, rfl, rfl, Or.inl ⟨rfl, by unfold wd0; omega⟩⟩
                                      · intro kk106
                                        exfalso; omega
theorem d_isWord_1 {V : cg_V} {d q : Nat} (hd : 0 ≤ d) (hq : 0 ≤ q) {m : kM} (hm : kI m) {x : Int} (h_x : 840668623 ≤ x ∧ x ≤ 840668623) : cg_S V d q mX10_isWord [vR 61, vL x, vI 6] (kl m) (R_I (fun z m' => (m = m') ∧ ((z = 1 ∧ wd1 (m.2.1 64) (m.1 32) (m.1 33)) ∨ (z = 0 ∧ ¬ wd1 (m.2.1 64) (m.1 32) (m.1 33))))) := by
  refine cg_of (List.mem_of_getElem? (show ae_MT[126]? = some mX10_isWord from rfl)) (Nat.le_of_ble_eq_true rfl) ?_
  show cg_G V mX10_isWord d q _ 0 [(0, vR 61), (1, vL x), (3, vI 6)] [] (kl m) 0 0
  have h1 : 0 ≤ m.1 32 ∧ m.1 32 ≤ 200 := hm.1 32
  have h2 : 0 ≤ m.1 33 ∧ m.1 33 ≤ 200 := hm.1 33
  have h3 : x = 840668623 := by omega
  rcases h3 with rfl
  · refine g_aload_n (n := 0) rfl rfl ?_
    refine g_getf (v := vI (m.1 33)) rfl (kl_61 _) rfl ?_
    refine g_aload_n (n := 0) rfl rfl ?_
    refine g_getf (v := vI (m.1 32)) rfl (kl_61 _) rfl ?_
    refine g_isub rfl ?_
    refine g_iload_n (n := 3) rfl rfl ?_
    refine g_icmp_ne (by omega) (by omega) (by decide) (by decide) rfl ?_ ?_
    · intro kk4
      refine g_iconst rfl ?_
      refine g_istore (n := 4) (lo' := [(0, vR 61), (1, vL 840668623), (3, vI 6)]) rfl rfl ?_
      refine g_iconst rfl ?_
      refine g_istore (n := 5) (lo' := [(4, vI 0), (0, vR 61), (1, vL 840668623), (3, vI 6)]) rfl rfl ?_
      refine g_iload (n := 4) rfl rfl ?_
      refine g_if_eq (by decide) (by decide) rfl ?_ ?_
      · intro kk5
        refine g_iload (n := 4) rfl rfl ?_
        refine g_zret rfl rfl (by omega) ?_
        exact ⟨_, _, rfl, rfl, Or.inr ⟨rfl, by unfold wd1; omega⟩⟩
      · intro kk6
        exfalso; omega
    · intro kk7
      refine g_iconst rfl ?_
      refine g_goto rfl ?_
      refine g_istore (n := 4) (lo' := [(0, vR 61), (1, vL 840668623), (3, vI 6)]) rfl rfl ?_
      refine g_iconst rfl ?_
      refine g_istore (n := 5) (lo' := [(4, vI 1), (0, vR 61), (1, vL 840668623), (3, vI 6)]) rfl rfl ?_
      refine g_iload (n := 4) rfl rfl ?_
      refine g_if_eq (by decide) (by decide) rfl ?_ ?_
      · intro kk8
        exfalso; omega
      · intro kk9
        refine g_iload (n := 5) rfl rfl ?_
        refine g_iload_n (n := 3) rfl rfl ?_
        refine g_icmp_ge (by decide) (by decide) (by decide) (by decide) rfl ?_ ?_
        · intro kk10
          exfalso; omega
        · intro kk11
          refine g_aload_n (n := 0) rfl rfl ?_
          refine g_getf (v := vR 64) rfl (kl_61 _) rfl ?_
          refine g_aload_n (n := 0) rfl rfl ?_
          refine g_getf (v := vI (m.1 32)) rfl (kl_61 _) rfl ?_
          refine g_iload (n := 5) rfl rfl ?_
          refine g_iaddE (z := m.1 32) (by omega) rfl ?_
          have h12 : 0 ≤ m.2.1 64 (m.1 32) ∧ m.2.1 64 (m.1 32) ≤ 255 := hm.2 64 (m.1 32) (by omega) (show m.1 32 < (200 : Int) by omega)
          refine g_iald (f := m.2.1 64) rfl (kl_64 _) (by decide) (by omega) (by omega) ?_
          refine g_bipush (by decide) rfl ?_
          refine g_lload_n (n := 1) rfl rfl ?_
          refine g_iconst rfl ?_
          refine g_iload (n := 5) rfl rfl ?_
          refine g_imulE (z := 0) (by decide) rfl ?_
          refine g_lshr rfl ?_
          intro z13 h14 h15 h16
          have h17 : z13 = 840668623 := h14.trans (by decide +kernel)
          subst h17
          refine g_ldc2 (x := 31) (by decide) rfl ?_
          refine g_land rfl ?_
          intro z18 h19 h20 h21
          have h22 : z18 = 15 := h19.trans (by decide +kernel)
          subst h22
          refine g_l2i rfl ?_
          refine g_iaddE (z := 111) (by decide) rfl ?_
          refine g_icmp_ne (by omega) (by omega) (by decide) (by decide) rfl ?_ ?_
          · intro kk23
            refine g_iconst rfl ?_
            refine g_istore (n := 4) (lo' := [(5, vI 0), (0, vR 61), (1, vL 840668623), (3, vI 6)]) rfl rfl ?_
            refine g_iincE (z := 1) (by decide) (n := 5) (lo' := [(4, vI 0), (0, vR 61), (1, vL 840668623), (3, vI 6)]) rfl rfl rfl ?_
            refine g_goto rfl ?_
            refine g_iload (n := 4) rfl rfl ?_
            refine g_if_eq (by decide) (by decide) rfl ?_ ?_
            · intro kk24
              refine g_iload (n := 4) rfl rfl ?_
              refine g_zret rfl rfl (by omega) ?_
              exact ⟨_, _, rfl, rfl, Or.inr ⟨rfl, by unfold wd1; omega⟩⟩
            · intro kk25
              exfalso; omega
          · intro kk26
            refine g_iconst rfl ?_
            refine g_goto rfl ?_
            refine g_istore (n := 4) (lo' := [(5, vI 0), (0, vR 61), (1, vL 840668623), (3, vI 6)]) rfl rfl ?_
            refine g_iincE (z := 1) (by decide) (n := 5) (lo' := [(4, vI 1), (0, vR 61), (1, vL 840668623), (3, vI 6)]) rfl rfl rfl ?_
            refine g_goto rfl ?_
            refine g_iload (n := 4) rfl rfl ?_
            refine g_if_eq (by decide) (by decide) rfl ?_ ?_
            · intro kk27
              exfalso; omega
            · intro kk28
              refine g_iload (n := 5) rfl rfl ?_
              refine g_iload_n (n := 3) rfl rfl ?_
              refine g_icmp_ge (by decide) (by decide) (by decide) (by decide) rfl ?_ ?_
              · intro kk29
                exfalso; omega
              · intro kk30
                refine g_aload_n (n := 0) rfl rfl ?_
                refine g_getf (v := vR 64) rfl (kl_61 _) rfl ?_
                refine g_aload_n (n := 0) rfl rfl ?_
                refine g_getf (v := vI (m.1 32)) rfl (kl_61 _) rfl ?_
                refine g_iload (n := 5) rfl rfl ?_
                refine g_iadd rfl ?_
                have h31 : 0 ≤ m.2.1 64 (m.1 32 + 1) ∧ m.2.1 64 (m.1 32 + 1) ≤ 255 := hm.2 64 (m.1 32 + 1) (by omega) (show (m.1 32 + 1) < (200 : Int) by omega)
                refine g_iald (f := m.2.1 64) rfl (kl_64 _) (by decide) (by omega) (by omega) ?_
                refine g_bipush (by decide) rfl ?_
                refine g_lload_n (n := 1) rfl rfl ?_
                refine g_iconst rfl ?_
                refine g_iload (n := 5) rfl rfl ?_
                refine g_imulE (z := 5) (by decide) rfl ?_
                refine g_lshr rfl ?_
                intro z32 h33 h34 h35
                have h36 : z32 = 26270894 := h33.trans (by decide +kernel)
                subst h36
                refine g_ldc2 (x := 31) (by decide) rfl ?_
                refine g_land rfl ?_
                intro z37 h38 h39 h40
                have h41 : z37 = 14 := h38.trans (by decide +kernel)
                subst h41
                refine g_l2i rfl ?_
                refine g_iaddE (z := 110) (by decide) rfl ?_
                refine g_icmp_ne (by omega) (by omega) (by decide) (by decide) rfl ?_ ?_
                · intro kk42
                  refine g_iconst rfl ?_
                  refine g_istore (n := 4) (lo' := [(5, vI 1), (0, vR 61), (1, vL 840668623), (3, vI 6)]) rfl rfl ?_
                  refine g_iincE (z := 2) (by decide) (n := 5) (lo' := [(4, vI 0), (0, vR 61), (1, vL 840668623), (3, vI 6)]) rfl rfl rfl ?_
                  refine g_goto rfl ?_
                  refine g_iload (n := 4) rfl rfl ?_
                  refine g_if_eq (by decide) (by decide) rfl ?_ ?_
                  · intro kk43
                    refine g_iload (n := 4) rfl rfl ?_
                    refine g_zret rfl rfl (by omega) ?_
                    exact ⟨_, _, rfl, rfl, Or.inr ⟨rfl, by unfold wd1; omega⟩⟩
                  · intro kk44
                    exfalso; omega
                · intro kk45
                  refine g_iconst rfl ?_
                  refine g_goto rfl ?_
                  refine g_istore (n := 4) (lo' := [(5, vI 1), (0, vR 61), (1, vL 840668623), (3, vI 6)]) rfl rfl ?_
                  refine g_iincE (z := 2) (by decide) (n := 5) (lo' := [(4, vI 1), (0, vR 61), (1, vL 840668623), (3, vI 6)]) rfl rfl rfl ?_
                  refine g_goto rfl ?_
                  refine g_iload (n := 4) rfl rfl ?_
                  refine g_if_eq (by decide) (by decide) rfl ?_ ?_
                  · intro kk46
                    exfalso; omega
                  · intro kk47
                    refine g_iload (n := 5) rfl rfl ?_
                    refine g_iload_n (n := 3) rfl rfl ?_
                    refine g_icmp_ge (by decide) (by decide) (by decide) (by decide) rfl ?_ ?_
                    · intro kk48
                      exfalso; omega
                    · intro kk49
                      refine g_aload_n (n := 0) rfl rfl ?_
                      refine g_getf (v := vR 64) rfl (kl_61 _) rfl ?_
                      refine g_aload_n (n := 0) rfl rfl ?_
                      refine g_getf (v := vI (m.1 32)) rfl (kl_61 _) rfl ?_
                      refine g_iload (n := 5) rfl rfl ?_
                      refine g_iadd rfl ?_
                      have h50 : 0 ≤ m.2.1 64 (m.1 32 + 2) ∧ m.2.1 64 (m.1 32 + 2) ≤ 255 := hm.2 64 (m.1 32 + 2) (by omega) (show (m.1 32 + 2) < (200 : Int) by omega)
                      refine g_iald (f := m.2.1 64) rfl (kl_64 _) (by decide) (by omega) (by omega) ?_
                      refine g_bipush (by decide) rfl ?_
                      refine g_lload_n (n := 1) rfl rfl ?_
                      refine g_iconst rfl ?_
                      refine g_iload (n := 5) rfl rfl ?_
                      refine g_imulE (z := 10) (by decide) rfl ?_
                      refine g_lshr rfl ?_
                      intro z51 h52 h53 h54
                      have h55 : z51 = 820965 := h52.trans (by decide +kernel)
                      subst h55
                      refine g_ldc2 (x := 31) (by decide) rfl ?_
                      refine g_land rfl ?_
                      intro z56 h57 h58 h59
                      have h60 : z56 = 5 := h57.trans (by decide +kernel)
                      subst h60
                      refine g_l2i rfl ?_
                      refine g_iaddE (z := 101) (by decide) rfl ?_
                      refine g_icmp_ne (by omega) (by omega) (by decide) (by decide) rfl ?_ ?_
                      · intro kk61
                        refine g_iconst rfl ?_
                        refine g_istore (n := 4) (lo' := [(5, vI 2), (0, vR 61), (1, vL 840668623), (3, vI 6)]) rfl rfl ?_
                        refine g_iincE (z := 3) (by decide) (n := 5) (lo' := [(4, vI 0), (0, vR 61), (1, vL 840668623), (3, vI 6)]) rfl rfl rfl ?_
                        refine g_goto rfl ?_
                        refine g_iload (n := 4) rfl rfl ?_
                        refine g_if_eq (by decide) (by decide) rfl ?_ ?_
                        · intro kk62
                          refine g_iload (n := 4) rfl rfl ?_
                          refine g_zret rfl rfl (by omega) ?_
                          exact ⟨_, _, rfl, rfl, Or.inr ⟨rfl, by unfold wd1; omega⟩⟩
                        · intro kk63
                          exfalso; omega
                      · intro kk64
                        refine g_iconst rfl ?_
                        refine g_goto rfl ?_
                        refine g_istore (n := 4) (lo' := [(5, vI 2), (0, vR 61), (1, vL 840668623), (3, vI 6)]) rfl rfl ?_
                        refine g_iincE (z := 3) (by decide) (n := 5) (lo' := [(4, vI 1), (0, vR 61), (1, vL 840668623), (3, vI 6)]) rfl rfl rfl ?_
                        refine g_goto rfl ?_
                        refine g_iload (n := 4) rfl rfl ?_
                        refine g_if_eq (by decide) (by decide) rfl ?_ ?_
                        · intro kk65
                          exfalso; omega
                        · intro kk66
                          refine g_iload (n := 5) rfl rfl ?_
                          refine g_iload_n (n := 3) rfl rfl ?_
                          refine g_icmp_ge (by decide) (by decide) (by decide) (by decide) rfl ?_ ?_
                          · intro kk67
                            exfalso; omega
                          · intro kk68
                            refine g_aload_n (n := 0) rfl rfl ?_
                            refine g_getf (v := vR 64) rfl (kl_61 _) rfl ?_
                            refine g_aload_n (n := 0) rfl rfl ?_
                            refine g_getf (v := vI (m.1 32)) rfl (kl_61 _) rfl ?_
                            refine g_iload (n := 5) rfl rfl ?_
                            refine g_iadd rfl ?_
                            have h69 : 0 ≤ m.2.1 64 (m.1 32 + 3) ∧ m.2.1 64 (m.1 32 + 3) ≤ 255 := hm.2 64 (m.1 32 + 3) (by omega) (show (m.1 32 + 3) < (200 : Int) by omega)
                            refine g_iald (f := m.2.1 64) rfl (kl_64 _) (by decide) (by omega) (by omega) ?_
                            refine g_bipush (by decide) rfl ?_
                            refine g_lload_n (n := 1) rfl rfl ?_
                            refine g_iconst rfl ?_
                            refine g_iload (n := 5) rfl rfl ?_
                            refine g_imulE (z := 15) (by decide) rfl ?_
                            refine g_lshr rfl ?_
                            intro z70 h71 h72 h73
                            have h74 : z70 = 25655 := h71.trans (by decide +kernel)
                            subst h74
                            refine g_ldc2 (x := 31) (by decide) rfl ?_
                            refine g_land rfl ?_
                            intro z75 h76 h77 h78
                            have h79 : z75 = 23 := h76.trans (by decide +kernel)
                            subst h79
                            refine g_l2i rfl ?_
                            refine g_iaddE (z := 119) (by decide) rfl ?_
                            refine g_icmp_ne (by omega) (by omega) (by decide) (by decide) rfl ?_ ?_
                            · intro kk80
                              refine g_iconst rfl ?_
                              refine g_istore (n := 4) (lo' := [(5, vI 3), (0, vR 61), (1, vL 840668623), (3, vI 6)]) rfl rfl ?_
                              refine g_iincE (z := 4) (by decide) (n := 5) (lo' := [(4, vI 0), (0, vR 61), (1, vL 840668623), (3, vI 6)]) rfl rfl rfl ?_
                              refine g_goto rfl ?_
                              refine g_iload (n := 4) rfl rfl ?_
                              refine g_if_eq (by decide) (by decide) rfl ?_ ?_
                              · intro kk81
                                refine g_iload (n := 4) rfl rfl ?_
                                refine g_zret rfl rfl (by omega) ?_
                                exact ⟨_, _, rfl, rfl, Or.inr ⟨rfl, by unfold wd1; omega⟩⟩
                              · intro kk82
                                exfalso; omega
                            · intro kk83
                              refine g_iconst rfl ?_
                              refine g_goto rfl ?_
                              refine g_istore (n := 4) (lo' := [(5, vI 3), (0, vR 61), (1, vL 840668623), (3, vI 6)]) rfl rfl ?_
                              refine g_iincE (z := 4) (by decide) (n := 5) (lo' := [(4, vI 1), (0, vR 61), (1, vL 840668623), (3, vI 6)]) rfl rfl rfl ?_
                              refine g_goto rfl ?_
                              refine g_iload (n := 4) rfl rfl ?_
                              refine g_if_eq (by decide) (by decide) rfl ?_ ?_
                              · intro kk84
                                exfalso; omega
                              · intro kk85
                                refine g_iload (n := 5) rfl rfl ?_
                                refine g_iload_n (n := 3) rfl rfl ?_
                                refine g_icmp_ge (by decide) (by decide) (by decide) (by decide) rfl ?_ ?_
                                · intro kk86
                                  exfalso; omega
                                · intro kk87
                                  refine g_aload_n (n := 0) rfl rfl ?_
                                  refine g_getf (v := vR 64) rfl (kl_61 _) rfl ?_
                                  refine g_aload_n (n := 0) rfl rfl ?_
                                  refine g_getf (v := vI (m.1 32)) rfl (kl_61 _) rfl ?_
                                  refine g_iload (n := 5) rfl rfl ?_
                                  refine g_iadd rfl ?_
                                  have h88 : 0 ≤ m.2.1 64 (m.1 32 + 4) ∧ m.2.1 64 (m.1 32 + 4) ≤ 255 := hm.2 64 (m.1 32 + 4) (by omega) (show (m.1 32 + 4) < (200 : Int) by omega)
                                  refine g_iald (f := m.2.1 64) rfl (kl_64 _) (by decide) (by omega) (by omega) ?_
                                  refine g_bipush (by decide) rfl ?_
                                  refine g_lload_n (n := 1) rfl rfl ?_
                                  refine g_iconst rfl ?_
                                  refine g_iload (n := 5) rfl rfl ?_
                                  refine g_imulE (z := 20) (by decide) rfl ?_
                                  refine g_lshr rfl ?_
                                  intro z89 h90 h91 h92
                                  have h93 : z89 = 801 := h90.trans (by decide +kernel)
                                  subst h93
                                  refine g_ldc2 (x := 31) (by decide) rfl ?_
                                  refine g_land rfl ?_
                                  intro z94 h95 h96 h97
                                  have h98 : z94 = 1 := h95.trans (by decide +kernel)
                                  subst h98
                                  refine g_l2i rfl ?_
                                  refine g_iaddE (z := 97) (by decide) rfl ?_
                                  refine g_icmp_ne (by omega) (by omega) (by decide) (by decide) rfl ?_ ?_
                                  · intro kk99
                                    refine g_iconst rfl ?_
                                    refine g_istore (n := 4) (lo' := [(5, vI 4), (0, vR 61), (1, vL 840668623), (3, vI 6)]) rfl rfl ?_
                                    refine g_iincE (z := 5) (by decide) (n := 5) (lo' := [(4, vI 0), (0, vR 61), (1, vL 840668623), (3, vI 6)]) rfl rfl rfl ?_
                                    refine g_goto rfl ?_
                                    refine g_iload (n := 4) rfl rfl ?_
                                    refine g_if_eq (by decide) (by decide) rfl ?_ ?_
                                    · intro kk100
                                      refine g_iload (n := 4) rfl rfl ?_
                                      refine g_zret rfl rfl (by omega) ?_
                                      exact ⟨_, _, rfl, rfl, Or.inr ⟨rfl, by unfold wd1; omega⟩⟩
                                    · intro kk101
                                      exfalso; omega
                                  · intro kk102
                                    refine g_iconst rfl ?_
                                    refine g_goto rfl ?_
                                    refine g_istore (n := 4) (lo' := [(5, vI 4), (0, vR 61), (1, vL 840668623), (3, vI 6)]) rfl rfl ?_
                                    refine g_iincE (z := 5) (by decide) (n := 5) (lo' := [(4, vI 1), (0, vR 61), (1, vL 840668623), (3, vI 6)]) rfl rfl rfl ?_
                                    refine g_goto rfl ?_
                                    refine g_iload (n := 4) rfl rfl ?_
                                    refine g_if_eq (by decide) (by decide) rfl ?_ ?_
                                    · intro kk103
                                      exfalso; omega
                                    · intro kk104
                                      refine g_iload (n := 5) rfl rfl ?_
                                      refine g_iload_n (n := 3) rfl rfl ?_
                                      refine g_icmp_ge (by decide) (by decide) (by decide) (by decide) rfl ?_ ?_
                                      · intro kk105
                                        exfalso; omega
                                      · intro kk106
                                        refine g_aload_n (n := 0) rfl rfl ?_
                                        refine g_getf (v := vR 64) rfl (kl_61 _) rfl ?_
                                        refine g_aload_n (n := 0) rfl rfl ?_
                                        refine g_getf (v := vI (m.1 32)) rfl (kl_61 _) rfl ?_
                                        refine g_iload (n := 5) rfl rfl ?_
                                        refine g_iadd rfl ?_
                                        have h107 : 0 ≤ m.2.1 64 (m.1 32 + 5) ∧ m.2.1 64 (m.1 32 + 5) ≤ 255 := hm.2 64 (m.1 32 + 5) (by omega) (show (m.1 32 + 5) < (200 : Int) by omega)
                                        refine g_iald (f := m.2.1 64) rfl (kl_64 _) (by decide) (by omega) (by omega) ?_
                                        refine g_bipush (by decide) rfl ?_
                                        refine g_lload_n (n := 1) rfl rfl ?_
                                        refine g_iconst rfl ?_
                                        refine g_iload (n := 5) rfl rfl ?_
                                        refine g_imulE (z := 25) (by decide) rfl ?_
                                        refine g_lshr rfl ?_
                                        intro z108 h109 h110 h111
                                        have h112 : z108 = 25 := h109.trans (by decide +kernel)
                                        subst h112
                                        refine g_ldc2 (x := 31) (by decide) rfl ?_
                                        refine g_land rfl ?_
                                        intro z113 h114 h115 h116
                                        have h117 : z113 = 25 := h114.trans (by decide +kernel)
                                        subst h117
                                        refine g_l2i rfl ?_
                                        refine g_iaddE (z := 121) (by decide) rfl ?_
                                        refine g_icmp_ne (by omega) (by omega) (by decide) (by decide) rfl ?_ ?_
                                        · intro kk118
                                          refine g_iconst rfl ?_
                                          refine g_istore (n := 4) (lo' := [(5, vI 5), (0, vR 61), (1, vL 840668623), (3, vI 6)]) rfl rfl ?_
                                          refine g_iincE (z := 6) (by decide) (n := 5) (lo' := [(4, vI 0), (0, vR 61), (1, vL 840668623), (3, vI 6)]) rfl rfl rfl ?_
                                          refine g_goto rfl ?_
                                          refine g_iload (n := 4) rfl rfl ?_
                                          refine g_if_eq (by decide) (by decide) rfl ?_ ?_
                                          · intro kk119
                                            refine g_iload (n := 4) rfl rfl ?_
                                            refine g_zret rfl rfl (by omega) ?_
                                            exact ⟨_, _, rfl, rfl, Or.inr ⟨rfl, by unfold wd1; omega⟩⟩
                                          · intro kk120
                                            exfalso; omega
                                        · intro kk121
                                          refine g_iconst rfl ?_
                                          refine g_goto rfl ?_
                                          refine g_istore (n := 4) (lo' := [(5, vI 5), (0, vR 61), (1, vL 840668623), (3, vI 6)]) rfl rfl ?_
                                          refine g_iincE (z := 6) (by decide) (n := 5) (lo' := [(4, vI 1), (0, vR 61), (1, vL 840668623), (3, vI 6)]) rfl rfl rfl ?_
                                          refine g_goto rfl ?_
                                          refine g_iload (n := 4) rfl rfl ?_
                                          refine g_if_eq (by decide) (by decide) rfl ?_ ?_
                                          · intro kk122
                                            exfalso; omega
                                          · intro kk123
                                            refine g_iload (n := 5) rfl rfl ?_
                                            refine g_iload_n (n := 3) rfl rfl ?_
                                            refine g_icmp_ge (by decide) (by decide) (by decide) (by decide) rfl ?_ ?_
                                            · intro kk124
                                              refine g_iload (n := 4) rfl rfl ?_
                                              refine g_zret rfl rfl (by omega) ?_
                                              exact ⟨_, _, rfl, rfl, Or.inl ⟨rfl, by unfold wd1; omega⟩⟩
                                            · intro kk125
                                              exfalso; omega
theorem d_isWord_2 {V : cg_V} {d q : Nat} (hd : 0 ≤ d) (hq : 0 ≤ q) {m : kM} (hm : kI m) {x : Int} (h_x : 16116 ≤ x ∧ x ≤ 16116) : cg_S V d q mX10_isWord [vR 61, vL x, vI 3] (kl m) (R_I (fun z m' => (m = m') ∧ ((z = 1 ∧ wd2 (m.2.1 64) (m.1 32) (m.1 33)) ∨ (z = 0 ∧ ¬ wd2 (m.2.1 64) (m.1 32) (m.1 33))))) := by
  refine cg_of (List.mem_of_getElem? (show ae_MT[126]? = some mX10_isWord from rfl)) (Nat.le_of_ble_eq_true rfl) ?_
  show cg_G V mX10_isWord d q _ 0 [(0, vR 61), (1, vL x), (3, vI 3)] [] (kl m) 0 0
  have h1 : 0 ≤ m.1 32 ∧ m.1 32 ≤ 200 := hm.1 32
  have h2 : 0 ≤ m.1 33 ∧ m.1 33 ≤ 200 := hm.1 33
  have h3 : x = 16116 := by omega
  rcases h3 with rfl
  · refine g_aload_n (n := 0) rfl rfl ?_
    refine g_getf (v := vI (m.1 33)) rfl (kl_61 _) rfl ?_
    refine g_aload_n (n := 0) rfl rfl ?_
    refine g_getf (v := vI (m.1 32)) rfl (kl_61 _) rfl ?_
    refine g_isub rfl ?_
    refine g_iload_n (n := 3) rfl rfl ?_
    refine g_icmp_ne (by omega) (by omega) (by decide) (by decide) rfl ?_ ?_
    · intro kk4
      refine g_iconst rfl ?_
      refine g_istore (n := 4) (lo' := [(0, vR 61), (1, vL 16116), (3, vI 3)]) rfl rfl ?_
      refine g_iconst rfl ?_
      refine g_istore (n := 5) (lo' := [(4, vI 0), (0, vR 61), (1, vL 16116), (3, vI 3)]) rfl rfl ?_
      refine g_iload (n := 4) rfl rfl ?_
      refine g_if_eq (by decide) (by decide) rfl ?_ ?_
      · intro kk5
        refine g_iload (n := 4) rfl rfl ?_
        refine g_zret rfl rfl (by omega) ?_
        exact ⟨_, _, rfl, rfl, Or.inr ⟨rfl, by unfold wd2; omega⟩⟩
      · intro kk6
        exfalso; omega
    · intro kk7
      refine g_iconst rfl ?_
      refine g_goto rfl ?_
      refine g_istore (n := 4) (lo' := [(0, vR 61), (1, vL 16116), (3, vI 3)]) rfl rfl ?_
      refine g_iconst rfl ?_
      refine g_istore (n := 5) (lo' := [(4, vI 1), (0, vR 61), (1, vL 16116), (3, vI 3)]) rfl rfl ?_
      refine g_iload (n := 4) rfl rfl ?_
      refine g_if_eq (by decide) (by decide) rfl ?_ ?_
      · intro kk8
        exfalso; omega
      · intro kk9
        refine g_iload (n := 5) rfl rfl ?_
        refine g_iload_n (n := 3) rfl rfl ?_
        refine g_icmp_ge (by decide) (by decide) (by decide) (by decide) rfl ?_ ?_
        · intro kk10
          exfalso; omega
        · intro kk11
          refine g_aload_n (n := 0) rfl rfl ?_
          refine g_getf (v := vR 64) rfl (kl_61 _) rfl ?_
          refine g_aload_n (n := 0) rfl rfl ?_
          refine g_getf (v := vI (m.1 32)) rfl (kl_61 _) rfl ?_
          refine g_iload (n := 5) rfl rfl ?_
          refine g_iaddE (z := m.1 32) (by omega) rfl ?_
          have h12 : 0 ≤ m.2.1 64 (m.1 32) ∧ m.2.1 64 (m.1 32) ≤ 255 := hm.2 64 (m.1 32) (by omega) (show m.1 32 < (200 : Int) by omega)
          refine g_iald (f := m.2.1 64) rfl (kl_64 _) (by decide) (by omega) (by omega) ?_
          refine g_bipush (by decide) rfl ?_
          refine g_lload_n (n := 1) rfl rfl ?_
          refine g_iconst rfl ?_
          refine g_iload (n := 5) rfl rfl ?_
          refine g_imulE (z := 0) (by decide) rfl ?_
          refine g_lshr rfl ?_
          intro z13 h14 h15 h16
          have h17 : z13 = 16116 := h14.trans (by decide +kernel)
          subst h17
          refine g_ldc2 (x := 31) (by decide) rfl ?_
          refine g_land rfl ?_
          intro z18 h19 h20 h21
          have h22 : z18 = 20 := h19.trans (by decide +kernel)
          subst h22
          refine g_l2i rfl ?_
          refine g_iaddE (z := 116) (by decide) rfl ?_
          refine g_icmp_ne (by omega) (by omega) (by decide) (by decide) rfl ?_ ?_
          · intro kk23
            refine g_iconst rfl ?_
            refine g_istore (n := 4) (lo' := [(5, vI 0), (0, vR 61), (1, vL 16116), (3, vI 3)]) rfl rfl ?_
            refine g_iincE (z := 1) (by decide) (n := 5) (lo' := [(4, vI 0), (0, vR 61), (1, vL 16116), (3, vI 3)]) rfl rfl rfl ?_
            refine g_goto rfl ?_
            refine g_iload (n := 4) rfl rfl ?_
            refine g_if_eq (by decide) (by decide) rfl ?_ ?_
            · intro kk24
              refine g_iload (n := 4) rfl rfl ?_
              refine g_zret rfl rfl (by omega) ?_
              exact ⟨_, _, rfl, rfl, Or.inr ⟨rfl, by unfold wd2; omega⟩⟩
            · intro kk25
              exfalso; omega
          · intro kk26
            refine g_iconst rfl ?_
            refine g_goto rfl ?_
            refine g_istore (n := 4) (lo' := [(5, vI 0), (0, vR 61), (1, vL 16116), (3, vI 3)]) rfl rfl ?_
            refine g_iincE (z := 1) (by decide) (n := 5) (lo' := [(4, vI 1), (0, vR 61), (1, vL 16116), (3, vI 3)]) rfl rfl rfl ?_
            refine g_goto rfl ?_
            refine g_iload (n := 4) rfl rfl ?_
            refine g_if_eq (by decide) (by decide) rfl ?_ ?_
            · intro kk27
              exfalso; omega
            · intro kk28
              refine g_iload (n := 5) rfl rfl ?_
              refine g_iload_n (n := 3) rfl rfl ?_
              refine g_icmp_ge (by decide) (by decide) (by decide) (by decide) rfl ?_ ?_
              · intro kk29
                exfalso; omega
              · intro kk30
                refine g_aload_n (n := 0) rfl rfl ?_
                refine g_getf (v := vR 64) rfl (kl_61 _) rfl ?_
                refine g_aload_n (n := 0) rfl rfl ?_
                refine g_getf (v := vI (m.1 32)) rfl (kl_61 _) rfl ?_
                refine g_iload (n := 5) rfl rfl ?_
                refine g_iadd rfl ?_
                have h31 : 0 ≤ m.2.1 64 (m.1 32 + 1) ∧ m.2.1 64 (m.1 32 + 1) ≤ 255 := hm.2 64 (m.1 32 + 1) (by omega) (show (m.1 32 + 1) < (200 : Int) by omega)
                refine g_iald (f := m.2.1 64) rfl (kl_64 _) (by decide) (by omega) (by omega) ?_
                refine g_bipush (by decide) rfl ?_
                refine g_lload_n (n := 1) rfl rfl ?_
                refine g_iconst rfl ?_
                refine g_iload (n := 5) rfl rfl ?_
                refine g_imulE (z := 5) (by decide) rfl ?_
                refine g_lshr rfl ?_
                intro z32 h33 h34 h35
                have h36 : z32 = 503 := h33.trans (by decide +kernel)
                subst h36
                refine g_ldc2 (x := 31) (by decide) rfl ?_
                refine g_land rfl ?_
                intro z37 h38 h39 h40
                have h41 : z37 = 23 := h38.trans (by decide +kernel)
                subst h41
                refine g_l2i rfl ?_
                refine g_iaddE (z := 119) (by decide) rfl ?_
                refine g_icmp_ne (by omega) (by omega) (by decide) (by decide) rfl ?_ ?_
                · intro kk42
                  refine g_iconst rfl ?_
                  refine g_istore (n := 4) (lo' := [(5, vI 1), (0, vR 61), (1, vL 16116), (3, vI 3)]) rfl rfl ?_
                  refine g_iincE (z := 2) (by decide) (n := 5) (lo' := [(4, vI 0), (0, vR 61), (1, vL 16116), (3, vI 3)]) rfl rfl rfl ?_
                  refine g_goto rfl ?_
                  refine g_iload (n := 4) rfl rfl ?_
                  refine g_if_eq (by decide) (by decide) rfl ?_ ?_
                  · intro kk43
                    refine g_iload (n := 4) rfl rfl ?_
                    refine g_zret rfl rfl (by omega) ?_
                    exact ⟨_, _, rfl, rfl, Or.inr ⟨rfl, by unfold wd2; omega⟩⟩
                  · intro kk44
                    exfalso; omega
                · intro kk45
                  refine g_iconst rfl ?_
                  refine g_goto rfl ?_
                  refine g_istore (n := 4) (lo' := [(5, vI 1), (0, vR 61), (1, vL 16116), (3, vI 3)]) rfl rfl ?_
                  refine g_iincE (z := 2) (by decide) (n := 5) (lo' := [(4, vI 1), (0, vR 61), (1, vL 16116), (3, vI 3)]) rfl rfl rfl ?_
                  refine g_goto rfl ?_
                  refine g_iload (n := 4) rfl rfl ?_
                  refine g_if_eq (by decide) (by decide) rfl ?_ ?_
                  · intro kk46
                    exfalso; omega
                  · intro kk47
                    refine g_iload (n := 5) rfl rfl ?_
                    refine g_iload_n (n := 3) rfl rfl ?_
                    refine g_icmp_ge (by decide) (by decide) (by decide) (by decide) rfl ?_ ?_
                    · intro kk48
                      exfalso; omega
                    · intro kk49
                      refine g_aload_n (n := 0) rfl rfl ?_
                      refine g_getf (v := vR 64) rfl (kl_61 _) rfl ?_
                      refine g_aload_n (n := 0) rfl rfl ?_
                      refine g_getf (v := vI (m.1 32)) rfl (kl_61 _) rfl ?_
                      refine g_iload (n := 5) rfl rfl ?_
                      refine g_iadd rfl ?_
                      have h50 : 0 ≤ m.2.1 64 (m.1 32 + 2) ∧ m.2.1 64 (m.1 32 + 2) ≤ 255 := hm.2 64 (m.1 32 + 2) (by omega) (show (m.1 32 + 2) < (200 : Int) by omega)
                      refine g_iald (f := m.2.1 64) rfl (kl_64 _) (by decide) (by omega) (by omega) ?_
                      refine g_bipush (by decide) rfl ?_
                      refine g_lload_n (n := 1) rfl rfl ?_
                      refine g_iconst rfl ?_
                      refine g_iload (n := 5) rfl rfl ?_
                      refine g_imulE (z := 10) (by decide) rfl ?_
                      refine g_lshr rfl ?_
                      intro z51 h52 h53 h54
                      have h55 : z51 = 15 := h52.trans (by decide +kernel)
                      subst h55
                      refine g_ldc2 (x := 31) (by decide) rfl ?_
                      refine g_land rfl ?_
                      intro z56 h57 h58 h59
                      have h60 : z56 = 15 := h57.trans (by decide +kernel)
                      subst h60
                      refine g_l2i rfl ?_
                      refine g_iaddE (z := 111) (by decide) rfl ?_
                      refine g_icmp_ne (by omega) (by omega) (by decide) (by decide) rfl ?_ ?_
                      · intro kk61
                        refine g_iconst rfl ?_
                        refine g_istore (n := 4) (lo' := [(5, vI 2), (0, vR 61), (1, vL 16116), (3, vI 3)]) rfl rfl ?_
                        refine g_iincE (z := 3) (by decide) (n := 5) (lo' := [(4, vI 0), (0, vR 61), (1, vL 16116), (3, vI 3)]) rfl rfl rfl ?_
                        refine g_goto rfl ?_
                        refine g_iload (n := 4) rfl rfl ?_
                        refine g_if_eq (by decide) (by decide) rfl ?_ ?_
                        · intro kk62
                          refine g_iload (n := 4) rfl rfl ?_
                          refine g_zret rfl rfl (by omega) ?_
                          exact ⟨_, _, rfl, rfl, Or.inr ⟨rfl, by unfold wd2; omega⟩⟩
                        · intro kk63
                          exfalso; omega
                      · intro kk64
                        refine g_iconst rfl ?_
                        refine g_goto rfl ?_
                        refine g_istore (n := 4) (lo' := [(5, vI 2), (0, vR 61), (1, vL 16116), (3, vI 3)]) rfl rfl ?_
                        refine g_iincE (z := 3) (by decide) (n := 5) (lo' := [(4, vI 1), (0, vR 61), (1, vL 16116), (3, vI 3)]) rfl rfl rfl ?_
                        refine g_goto rfl ?_
                        refine g_iload (n := 4) rfl rfl ?_
                        refine g_if_eq (by decide) (by decide) rfl ?_ ?_
                        · intro kk65
                          exfalso; omega
                        · intro kk66
                          refine g_iload (n := 5) rfl rfl ?_
                          refine g_iload_n (n := 3) rfl rfl ?_
                          refine g_icmp_ge (by decide) (by decide) (by decide) (by decide) rfl ?_ ?_
                          · intro kk67
                            refine g_iload (n := 4) rfl rfl ?_
                            refine g_zret rfl rfl (by omega) ?_
                            exact ⟨_, _, rfl, rfl, Or.inl ⟨rfl, by unfold wd2; omega⟩⟩
                          · intro kk68
                            exfalso; omega
theorem d_isWord_3 {V : cg_V} {d q : Nat} (hd : 0 ≤ d) (hq : 0 ≤ q) {m : kM} (hm : kI m) {x : Int} (h_x : 4471366839 ≤ x ∧ x ≤ 4471366839) : cg_S V d q mX10_isWord [vR 61, vL x, vI 7] (kl m) (R_I (fun z m' => (m = m') ∧ ((z = 1 ∧ wd3 (m.2.1 64) (m.1 32) (m.1 33)) ∨ (z = 0 ∧ ¬ wd3 (m.2.1 64) (m.1 32) (m.1 33))))) := by
  refine cg_of (List.mem_of_getElem? (show ae_MT[126]? = some mX10_isWord from rfl)) (Nat.le_of_ble_eq_true rfl) ?_
  show cg_G V mX10_isWord d q _ 0 [(0, vR 61), (1, vL x), (3, vI 7)] [] (kl m) 0 0
  have h1 : 0 ≤ m.1 32 ∧ m.1 32 ≤ 200 := hm.1 32
  have h2 : 0 ≤ m.1 33 ∧ m.1 33 ≤ 200 := hm.1 33
  have h3 : x = 4471366839 := by omega
  rcases h3 with rfl
  · refine g_aload_n (n := 0) rfl rfl ?_
    refine g_getf (v := vI (m.1 33)) rfl (kl_61 _) rfl ?_
    refine g_aload_n (n := 0) rfl rfl ?_
    refine g_getf (v := vI (m.1 32)) rfl (kl_61 _) rfl ?_
    refine g_isub rfl ?_
    refine g_iload_n (n := 3) rfl rfl ?_
    refine g_icmp_ne (by omega) (by omega) (by decide) (by decide) rfl ?_ ?_
    · intro kk4
      refine g_iconst rfl ?_
      refine g_istore (n := 4) (lo' := [(0, vR 61), (1, vL 4471366839), (3, vI 7)]) rfl rfl ?_
      refine g_iconst rfl ?_
      refine g_istore (n := 5) (lo' := [(4, vI 0), (0, vR 61), (1, vL 4471366839), (3, vI 7)]) rfl rfl ?_
      refine g_iload (n := 4) rfl rfl ?_
      refine g_if_eq (by decide) (by decide) rfl ?_ ?_
      · intro kk5
        refine g_iload (n := 4) rfl rfl ?_
        refine g_zret rfl rfl (by omega) ?_
        exact ⟨_, _, rfl, rfl, Or.inr ⟨rfl, by unfold wd3; omega⟩⟩
      · intro kk6
        exfalso; omega
    · intro kk7
      refine g_iconst rfl ?_
      refine g_goto rfl ?_
      refine g_istore (n := 4) (lo' := [(0, vR 61), (1, vL 4471366839), (3, vI 7)]) rfl rfl ?_
      refine g_iconst rfl ?_
      refine g_istore (n := 5) (lo' := [(4, vI 1), (0, vR 61), (1, vL 4471366839), (3, vI 7)]) rfl rfl ?_
      refine g_iload (n := 4) rfl rfl ?_
      refine g_if_eq (by decide) (by decide) rfl ?_ ?_
      · intro kk8
        exfalso; omega
      · intro kk9
        refine g_iload (n := 5) rfl rfl ?_
        refine g_iload_n (n := 3) rfl rfl ?_
        refine g_icmp_ge (by decide) (by decide) (by decide) (by decide) rfl ?_ ?_
        · intro kk10
          exfalso; omega
        · intro kk11
          refine g_aload_n (n := 0) rfl rfl ?_
          refine g_getf (v := vR 64) rfl (kl_61 _) rfl ?_
          refine g_aload_n (n := 0) rfl rfl ?_
          refine g_getf (v := vI (m.1 32)) rfl (kl_61 _) rfl ?_
          refine g_iload (n := 5) rfl rfl ?_
          refine g_iaddE (z := m.1 32) (by omega) rfl ?_
          have h12 : 0 ≤ m.2.1 64 (m.1 32) ∧ m.2.1 64 (m.1 32) ≤ 255 := hm.2 64 (m.1 32) (by omega) (show m.1 32 < (200 : Int) by omega)
          refine g_iald (f := m.2.1 64) rfl (kl_64 _) (by decide) (by omega) (by omega) ?_
          refine g_bipush (by decide) rfl ?_
          refine g_lload_n (n := 1) rfl rfl ?_
          refine g_iconst rfl ?_
          refine g_iload (n := 5) rfl rfl ?_
          refine g_imulE (z := 0) (by decide) rfl ?_
          refine g_lshr rfl ?_
          intro z13 h14 h15 h16
          have h17 : z13 = 4471366839 := h14.trans (by decide +kernel)
          subst h17
          refine g_ldc2 (x := 31) (by decide) rfl ?_
          refine g_land rfl ?_
          intro z18 h19 h20 h21
          have h22 : z18 = 23 := h19.trans (by decide +kernel)
          subst h22
          refine g_l2i rfl ?_
          refine g_iaddE (z := 119) (by decide) rfl ?_
          refine g_icmp_ne (by omega) (by omega) (by decide) (by decide) rfl ?_ ?_
          · intro kk23
            refine g_iconst rfl ?_
            refine g_istore (n := 4) (lo' := [(5, vI 0), (0, vR 61), (1, vL 4471366839), (3, vI 7)]) rfl rfl ?_
            refine g_iincE (z := 1) (by decide) (n := 5) (lo' := [(4, vI 0), (0, vR 61), (1, vL 4471366839), (3, vI 7)]) rfl rfl rfl ?_
            refine g_goto rfl ?_
            refine g_iload (n := 4) rfl rfl ?_
            refine g_if_eq (by decide) (by decide) rfl ?_ ?_
            · intro kk24
              refine g_iload (n := 4) rfl rfl ?_
              refine g_zret rfl rfl (by omega) ?_
              exact ⟨_, _, rfl, rfl, Or.inr ⟨rfl, by unfold wd3; omega⟩⟩
            · intro kk25
              exfalso; omega
          · intro kk26
            refine g_iconst rfl ?_
            refine g_goto rfl ?_
            refine g_istore (n := 4) (lo' := [(5, vI 0), (0, vR 61), (1, vL 4471366839), (3, vI 7)]) rfl rfl ?_
            refine g_iincE (z := 1) (by decide) (n := 5) (lo' := [(4, vI 1), (0, vR 61), (1, vL 4471366839), (3, vI 7)]) rfl rfl rfl ?_
            refine g_goto rfl ?_
            refine g_iload (n := 4) rfl rfl ?_
            refine g_if_eq (by decide) (by decide) rfl ?_ ?_
            · intro kk27
              exfalso; omega
            · intro kk28
              refine g_iload (n := 5) rfl rfl ?_
              refine g_iload_n (n := 3) rfl rfl ?_
              refine g_icmp_ge (by decide) (by decide) (by decide) (by decide) rfl ?_ ?_
              · intro kk29
                exfalso; omega
              · intro kk30
                refine g_aload_n (n := 0) rfl rfl ?_
                refine g_getf (v := vR 64) rfl (kl_61 _) rfl ?_
                refine g_aload_n (n := 0) rfl rfl ?_
                refine g_getf (v := vI (m.1 32)) rfl (kl_61 _) rfl ?_
                refine g_iload (n := 5) rfl rfl ?_
                refine g_iadd rfl ?_
                have h31 : 0 ≤ m.2.1 64 (m.1 32 + 1) ∧ m.2.1 64 (m.1 32 + 1) ≤ 255 := hm.2 64 (m.1 32 + 1) (by omega) (show (m.1 32 + 1) < (200 : Int) by omega)
                refine g_iald (f := m.2.1 64) rfl (kl_64 _) (by decide) (by omega) (by omega) ?_
                refine g_bipush (by decide) rfl ?_
                refine g_lload_n (n := 1) rfl rfl ?_
                refine g_iconst rfl ?_
                refine g_iload (n := 5) rfl rfl ?_
                refine g_imulE (z := 5) (by decide) rfl ?_
                refine g_lshr rfl ?_
                intro z32 h33 h34 h35
                have h36 : z32 = 139730213 := h33.trans (by decide +kernel)
                subst h36
                refine g_ldc2 (x := 31) (by decide) rfl ?_
                refine g_land rfl ?_
                intro z37 h38 h39 h40
                have h41 : z37 = 5 := h38.trans (by decide +kernel)
                subst h41
                refine g_l2i rfl ?_
                refine g_iaddE (z := 101) (by decide) rfl ?_
                refine g_icmp_ne (by omega) (by omega) (by decide) (by decide) rfl ?_ ?_
                · intro kk42
                  refine g_iconst rfl ?_
                  refine g_istore (n := 4) (lo' := [(5, vI 1), (0, vR 61), (1, vL 4471366839), (3, vI 7)]) rfl rfl ?_
                  refine g_iincE (z := 2) (by decide) (n := 5) (lo' := [(4, vI 0), (0, vR 61), (1, vL 4471366839), (3, vI 7)]) rfl rfl rfl ?_
                  refine g_goto rfl ?_
                  refine g_iload (n := 4) rfl rfl ?_
                  refine g_if_eq (by decide) (by decide) rfl ?_ ?_
                  · intro kk43
                    refine g_iload (n := 4) rfl rfl ?_
                    refine g_zret rfl rfl (by omega) ?_
                    exact ⟨_, _, rfl, rfl, Or.inr ⟨rfl, by unfold wd3; omega⟩⟩
                  · intro kk44
                    exfalso; omega
                · intro kk45
                  refine g_iconst rfl ?_
                  refine g_goto rfl ?_
                  refine g_istore (n := 4) (lo' := [(5, vI 1), (0, vR 61), (1, vL 4471366839), (3, vI 7)]) rfl rfl ?_
                  refine g_iincE (z := 2) (by decide) (n := 5) (lo' := [(4, vI 1), (0, vR 61), (1, vL 4471366839), (3, vI 7)]) rfl rfl rfl ?_
                  refine g_goto rfl ?_
                  refine g_iload (n := 4) rfl rfl ?_
                  refine g_if_eq (by decide) (by decide) rfl ?_ ?_
                  · intro kk46
                    exfalso; omega
                  · intro kk47
                    refine g_iload (n := 5) rfl rfl ?_
                    refine g_iload_n (n := 3) rfl rfl ?_
                    refine g_icmp_ge (by decide) (by decide) (by decide) (by decide) rfl ?_ ?_
                    · intro kk48
                      exfalso; omega
                    · intro kk49
                      refine g_aload_n (n := 0) rfl rfl ?_
                      refine g_getf (v := vR 64) rfl (kl_61 _) rfl ?_
                      refine g_aload_n (n := 0) rfl rfl ?_
                      refine g_getf (v := vI (m.1 32)) rfl (kl_61 _) rfl ?_
                      refine g_iload (n := 5) rfl rfl ?_
                      refine g_iadd rfl ?_
                      have h50 : 0 ≤ m.2.1 64 (m.1 32 + 2) ∧ m.2.1 64 (m.1 32 + 2) ≤ 255 := hm.2 64 (m.1 32 + 2) (by omega) (show (m.1 32 + 2) < (200 : Int) by omega)
                      refine g_iald (f := m.2.1 64) rfl (kl_64 _) (by decide) (by omega) (by omega) ?_
                      refine g_bipush (by decide) rfl ?_
                      refine g_lload_n (n := 1) rfl rfl ?_
                      refine g_iconst rfl ?_
                      refine g_iload (n := 5) rfl rfl ?_
                      refine g_imulE (z := 10) (by decide) rfl ?_
                      refine g_lshr rfl ?_
                      intro z51 h52 h53 h54
                      have h55 : z51 = 4366569 := h52.trans (by decide +kernel)
                      subst h55
                      refine g_ldc2 (x := 31) (by decide) rfl ?_
                      refine g_land rfl ?_
                      intro z56 h57 h58 h59
                      have h60 : z56 = 9 := h57.trans (by decide +kernel)
                      subst h60
                      refine g_l2i rfl ?_
                      refine g_iaddE (z := 105) (by decide) rfl ?_
                      refine g_icmp_ne (by omega) (by omega) (by decide) (by decide) rfl ?_ ?_
                      · intro kk61
                        refine g_iconst rfl ?_
                        refine g_istore (n := 4) (lo' := [(5, vI 2), (0, vR 61), (1, vL 4471366839), (3, vI 7)]) rfl rfl ?_
                        refine g_iincE (z := 3) (by decide) (n := 5) (lo' := [(4, vI 0), (0, vR 61), (1, vL 4471366839), (3, vI 7)]) rfl rfl rfl ?_
                        refine g_goto rfl ?_
                        refine g_iload (n := 4) rfl rfl ?_
                        refine g_if_eq (by decide) (by decide) rfl ?_ ?_
                        · intro kk62
                          refine g_iload (n := 4) rfl rfl ?_
                          refine g_zret rfl rfl (by omega) ?_
                          exact ⟨_, _, rfl, rfl, Or.inr ⟨rfl, by unfold wd3; omega⟩⟩
                        · intro kk63
                          exfalso; omega
                      · intro kk64
                        refine g_iconst rfl ?_
                        refine g_goto rfl ?_
                        refine g_istore (n := 4) (lo' := [(5, vI 2), (0, vR 61), (1, vL 4471366839), (3, vI 7)]) rfl rfl ?_
                        refine g_iincE (z := 3) (by decide) (n := 5) (lo' := [(4, vI 1), (0, vR 61), (1, vL 4471366839), (3, vI 7)]) rfl rfl rfl ?_
                        refine g_goto rfl ?_
                        refine g_iload (n := 4) rfl rfl ?_
                        refine g_if_eq (by decide) (by decide) rfl ?_ ?_
                        · intro kk65
                          exfalso; omega
                        · intro kk66
                          refine g_iload (n := 5) rfl rfl ?_
                          refine g_iload_n (n := 3) rfl rfl ?_
                          refine g_icmp_ge (by decide) (by decide) (by decide) (by decide) rfl ?_ ?_
                          · intro kk67
                            exfalso; omega
                          · intro kk68
                            refine g_aload_n (n := 0) rfl rfl ?_
                            refine g_getf (v := vR 64) rfl (kl_61 _) rfl ?_
                            refine g_aload_n (n := 0) rfl rfl ?_
                            refine g_getf (v := vI (m.1 32)) rfl (kl_61 _) rfl ?_
                            refine g_iload (n := 5) rfl rfl ?_
                            refine g_iadd rfl ?_
                            have h69 : 0 ≤ m.2.1 64 (m.1 32 + 3) ∧ m.2.1 64 (m.1 32 + 3) ≤ 255 := hm.2 64 (m.1 32 + 3) (by omega) (show (m.1 32 + 3) < (200 : Int) by omega)
                            refine g_iald (f := m.2.1 64) rfl (kl_64 _) (by decide) (by omega) (by omega) ?_
                            refine g_bipush (by decide) rfl ?_
                            refine g_lload_n (n := 1) rfl rfl ?_
                            refine g_iconst rfl ?_
                            refine g_iload (n := 5) rfl rfl ?_
                            refine g_imulE (z := 15) (by decide) rfl ?_
                            refine g_lshr rfl ?_
                            intro z70 h71 h72 h73
                            have h74 : z70 = 136455 := h71.trans (by decide +kernel)
                            subst h74
                            refine g_ldc2 (x := 31) (by decide) rfl ?_
                            refine g_land rfl ?_
                            intro z75 h76 h77 h78
                            have h79 : z75 = 7 := h76.trans (by decide +kernel)
                            subst h79
                            refine g_l2i rfl ?_
                            refine g_iaddE (z := 103) (by decide) rfl ?_
                            refine g_icmp_ne (by omega) (by omega) (by decide) (by decide) rfl ?_ ?_
                            · intro kk80
                              refine g_iconst rfl ?_
                              refine g_istore (n := 4) (lo' := [(5, vI 3), (0, vR 61), (1, vL 4471366839), (3, vI 7)]) rfl rfl ?_
                              refine g_iincE (z := 4) (by decide) (n := 5) (lo' := [(4, vI 0), (0, vR 61), (1, vL 4471366839), (3, vI 7)]) rfl rfl rfl ?_
                              refine g_goto rfl ?_
                              refine g_iload (n := 4) rfl rfl ?_
                              refine g_if_eq (by decide) (by decide) rfl ?_ ?_
                              · intro kk81
                                refine g_iload (n := 4) rfl rfl ?_
                                refine g_zret rfl rfl (by omega) ?_
                                exact ⟨_, _, rfl, rfl, Or.inr ⟨rfl, by unfold wd3; omega⟩⟩
                              · intro kk82
                                exfalso; omega
                            · intro kk83
                              refine g_iconst rfl ?_
                              refine g_goto rfl ?_
                              refine g_istore (n := 4) (lo' := [(5, vI 3), (0, vR 61), (1, vL 4471366839), (3, vI 7)]) rfl rfl ?_
                              refine g_iincE (z := 4) (by decide) (n := 5) (lo' := [(4, vI 1), (0, vR 61), (1, vL 4471366839), (3, vI 7)]) rfl rfl rfl ?_
                              refine g_goto rfl ?_
                              refine g_iload (n := 4) rfl rfl ?_
                              refine g_if_eq (by decide) (by decide) rfl ?_ ?_
                              · intro kk84
                                exfalso; omega
                              · intro kk85
                                refine g_iload (n := 5) rfl rfl ?_
                                refine g_iload_n (n := 3) rfl rfl ?_
                                refine g_icmp_ge (by decide) (by decide) (by decide) (by decide) rfl ?_ ?_
                                · intro kk86
                                  exfalso; omega
                                · intro kk87
                                  refine g_aload_n (n := 0) rfl rfl ?_
                                  refine g_getf (v := vR 64) rfl (kl_61 _) rfl ?_
                                  refine g_aload_n (n := 0) rfl rfl ?_
                                  refine g_getf (v := vI (m.1 32)) rfl (kl_61 _) rfl ?_
                                  refine g_iload (n := 5) rfl rfl ?_
                                  refine g_iadd rfl ?_
                                  have h88 : 0 ≤ m.2.1 64 (m.1 32 + 4) ∧ m.2.1 64 (m.1 32 + 4) ≤ 255 := hm.2 64 (m.1 32 + 4) (by omega) (show (m.1 32 + 4) < (200 : Int) by omega)
                                  refine g_iald (f := m.2.1 64) rfl (kl_64 _) (by decide) (by omega) (by omega) ?_
                                  refine g_bipush (by decide) rfl ?_
                                  refine g_lload_n (n := 1) rfl rfl ?_
                                  refine g_iconst rfl ?_
                                  refine g_iload (n := 5) rfl rfl ?_
                                  refine g_imulE (z := 20) (by decide) rfl ?_
                                  refine g_lshr rfl ?_
                                  intro z89 h90 h91 h92
                                  have h93 : z89 = 4264 := h90.trans (by decide +kernel)
                                  subst h93
                                  refine g_ldc2 (x := 31) (by decide) rfl ?_
                                  refine g_land rfl ?_
                                  intro z94 h95 h96 h97
                                  have h98 : z94 = 8 := h95.trans (by decide +kernel)
                                  subst h98
                                  refine g_l2i rfl ?_
                                  refine g_iaddE (z := 104) (by decide) rfl ?_
                                  refine g_icmp_ne (by omega) (by omega) (by decide) (by decide) rfl ?_ ?_
                                  · intro kk99
                                    refine g_iconst rfl ?_
                                    refine g_istore (n := 4) (lo' := [(5, vI 4), (0, vR 61), (1, vL 4471366839), (3, vI 7)]) rfl rfl ?_
                                    refine g_iincE (z := 5) (by decide) (n := 5) (lo' := [(4, vI 0), (0, vR 61), (1, vL 4471366839), (3, vI 7)]) rfl rfl rfl ?_
                                    refine g_goto rfl ?_
                                    refine g_iload (n := 4) rfl rfl ?_
                                    refine g_if_eq (by decide) (by decide) rfl ?_ ?_
                                    · intro kk100
                                      refine g_iload (n := 4) rfl rfl ?_
                                      refine g_zret rfl rfl (by omega) ?_
                                      exact ⟨_, _, rfl, rfl, Or.inr ⟨rfl, by unfold wd3; omega⟩⟩
                                    · intro kk101
                                      exfalso; omega
                                  · intro kk102
                                    refine g_iconst rfl ?_
                                    refine g_goto rfl ?_
                                    refine g_istore (n := 4) (lo' := [(5, vI 4), (0, vR 61), (1, vL 4471366839), (3, vI 7)]) rfl rfl ?_
                                    refine g_iincE (z := 5) (by decide) (n := 5) (lo' := [(4, vI 1), (0, vR 61), (1, vL 4471366839), (3, vI 7)]) rfl rfl rfl ?_
                                    refine g_goto rfl ?_
                                    refine g_iload (n := 4) rfl rfl ?_
                                    refine g_if_eq (by decide) (by decide) rfl ?_ ?_
                                    · intro kk103
                                      exfalso; omega
                                    · intro kk104
                                      refine g_iload (n := 5) rfl rfl ?_
                                      refine g_iload_n (n := 3) rfl rfl ?_
                                      refine g_icmp_ge (by decide) (by decide) (by decide) (by decide) rfl ?_ ?_
                                      · intro kk105
                                        exfalso; omega
                                      · intro kk106
                                        refine g_aload_n (n := 0) rfl rfl ?_
                                        refine g_getf (v := vR 64) rfl (kl_61 _) rfl ?_
                                        refine g_aload_n (n := 0) rfl rfl ?_
                                        refine g_getf (v := vI (m.1 32)) rfl (kl_61 _) rfl ?_
                                        refine g_iload (n := 5) rfl rfl ?_
                                        refine g_iadd rfl ?_
                                        have h107 : 0 ≤ m.2.1 64 (m.1 32 + 5) ∧ m.2.1 64 (m.1 32 + 5) ≤ 255 := hm.2 64 (m.1 32 + 5) (by omega) (show (m.1 32 + 5) < (200 : Int) by omega)
                                        refine g_iald (f := m.2.1 64) rfl (kl_64 _) (by decide) (by omega) (by omega) ?_
                                        refine g_bipush (by decide) rfl ?_
                                        refine g_lload_n (n := 1) rfl rfl ?_
                                        refine g_iconst rfl ?_
                                        refine g_iload (n := 5) rfl rfl ?_
                                        refine g_imulE (z := 25) (by decide) rfl ?_
                                        refine g_lshr rfl ?_
                                        intro z108 h109 h110 h111
                                        have h112 : z108 = 133 := h109.trans (by decide +kernel)
                                        subst h112
                                        refine g_ldc2 (x := 31) (by decide) rfl ?_
                                        refine g_land rfl ?_
                                        intro z113 h114 h115 h116
                                        have h117 : z113 = 5 := h114.trans (by decide +kernel)
                                        subst h117
                                        refine g_l2i rfl ?_
                                        refine g_iaddE (z := 101) (by decide) rfl ?_
                                        refine g_icmp_ne (by omega) (by omega) (by decide) (by decide) rfl ?_ ?_
                                        · intro kk118
                                          refine g_iconst rfl ?_
                                          refine g_istore (n := 4) (lo' := [(5, vI 5), (0, vR 61), (1, vL 4471366839), (3, vI 7)]) rfl rfl ?_
                                          refine g_iincE (z := 6) (by decide) (n := 5) (lo' := [(4, vI 0), (0, vR 61), (1, vL 4471366839), (3, vI 7)]) rfl rfl rfl ?_
                                          refine g_goto rfl ?_
                                          refine g_iload (n := 4) rfl rfl ?_
                                          refine g_if_eq (by decide) (by decide) rfl ?_ ?_
                                          · intro kk119
                                            refine g_iload (n := 4) rfl rfl ?_
                                            refine g_zret rfl rfl (by omega) ?_
                                            exact ⟨_, _, rfl, rfl, Or.inr ⟨rfl, by unfold wd3; omega⟩⟩
                                          · intro kk120
                                            exfalso; omega
                                        · intro kk121
                                          refine g_iconst rfl ?_
                                          refine g_goto rfl ?_
                                          refine g_istore (n := 4) (lo' := [(5, vI 5), (0, vR 61), (1, vL 4471366839), (3, vI 7)]) rfl rfl ?_
                                          refine g_iincE (z := 6) (by decide) (n := 5) (lo' := [(4, vI 1), (0, vR 61), (1, vL 4471366839), (3, vI 7)]) rfl rfl rfl ?_
                                          refine g_goto rfl ?_
                                          refine g_iload (n := 4) rfl rfl ?_
                                          refine g_if_eq (by decide) (by decide) rfl ?_ ?_
                                          · intro kk122
                                            exfalso; omega
                                          · intro kk123
                                            refine g_iload (n := 5) rfl rfl ?_
                                            refine g_iload_n (n := 3) rfl rfl ?_
                                            refine g_icmp_ge (by decide) (by decide) (by decide) (by decide) rfl ?_ ?_
                                            · intro kk124
                                              exfalso; omega
                                            · intro kk125
                                              refine g_aload_n (n := 0) rfl rfl ?_
                                              refine g_getf (v := vR 64) rfl (kl_61 _) rfl ?_
                                              refine g_aload_n (n := 0) rfl rfl ?_
                                              refine g_getf (v := vI (m.1 32)) rfl (kl_61 _) rfl ?_
                                              refine g_iload (n := 5) rfl rfl ?_
                                              refine g_iadd rfl ?_
                                              have h126 : 0 ≤ m.2.1 64 (m.1 32 + 6) ∧ m.2.1 64 (m.1 32 + 6) ≤ 255 := hm.2 64 (m.1 32 + 6) (by omega) (show (m.1 32 + 6) < (200 : Int) by omega)
                                              refine g_iald (f := m.2.1 64) rfl (kl_64 _) (by decide) (by omega) (by omega) ?_
                                              refine g_bipush (by decide) rfl ?_
                                              refine g_lload_n (n := 1) rfl rfl ?_
                                              refine g_iconst rfl ?_
                                              refine g_iload (n := 5) rfl rfl ?_
                                              refine g_imulE (z := 30) (by decide) rfl ?_
                                              refine g_lshr rfl ?_
                                              intro z127 h128 h129 h130
                                              have h131 : z127 = 4 := h128.trans (by decide +kernel)
                                              subst h131
                                              refine g_ldc2 (x := 31) (by decide) rfl ?_
                                              refine g_land rfl ?_
                                              intro z132 h133 h134 h135
                                              have h136 : z132 = 4 := h133.trans (by decide +kernel)
                                              subst h136
                                              refine g_l2i rfl ?_
                                              refine g_iaddE (z := 100) (by decide) rfl ?_
                                              refine g_icmp_ne (by omega) (by omega) (by decide) (by decide) rfl ?_ ?_
                                              · intro kk137
                                                refine g_iconst rfl ?_
                                                refine g_istore (n := 4) (lo' := [(5, vI 6), (0, vR 61), (1, vL 4471366839), (3, vI 7)]) rfl rfl ?_
                                                refine g_iincE (z := 7) (by decide) (n := 5) (lo' := [(4, vI 0), (0, vR 61), (1, vL 4471366839), (3, vI 7)]) rfl rfl rfl ?_
                                                refine g_goto rfl ?_
                                                refine g_iload (n := 4) rfl rfl ?_
                                                refine g_if_eq (by decide) (by decide) rfl ?_ ?_
                                                · intro kk138
                                                  refine g_iload (n := 4) rfl rfl ?_
                                                  refine g_zret rfl rfl (by omega) ?_
                                                  exact ⟨_, _, rfl, rfl, Or.inr ⟨rfl, by unfold wd3; omega⟩⟩
                                                · intro kk139
                                                  exfalso; omega
                                              · intro kk140
                                                refine g_iconst rfl ?_
                                                refine g_goto rfl ?_
                                                refine g_istore (n := 4) (lo' := [(5, vI 6), (0, vR 61), (1, vL 4471366839), (3, vI 7)]) rfl rfl ?_
                                                refine g_iincE (z := 7) (by decide) (n := 5) (lo' := [(4, vI 1), (0, vR 61), (1, vL 4471366839), (3, vI 7)]) rfl rfl rfl ?_
                                                refine g_goto rfl ?_
                                                refine g_iload (n := 4) rfl rfl ?_
                                                refine g_if_eq (by decide) (by decide) rfl ?_ ?_
                                                · intro kk141
                                                  exfalso; omega
                                                · intro kk142
                                                  refine g_iload (n := 5) rfl rfl ?_
                                                  refine g_iload_n (n := 3) rfl rfl ?_
                                                  refine g_icmp_ge (by decide) (by decide) (by decide) (by decide) rfl ?_ ?_
                                                  · intro kk143
                                                    refine g_iload (n := 4) rfl rfl ?_
                                                    refine g_zret rfl rfl (by omega) ?_
                                                    exact ⟨_, _, rfl, rfl, Or.inl ⟨rfl, by unfold wd3; omega⟩⟩
                                                  · intro kk144
                                                    exfalso; omega
theorem d_isWord_4 {V : cg_V} {d q : Nat} (hd : 0 ≤ d) (hq : 0 ≤ q) {m : kM} (hm : kI m) {x : Int} (h_x : 255864186515 ≤ x ∧ x ≤ 255864186515) : cg_S V d q mX10_isWord [vR 61, vL x, vI 8] (kl m) (R_I (fun z m' => (m = m') ∧ ((z = 1 ∧ wd4 (m.2.1 64) (m.1 32) (m.1 33)) ∨ (z = 0 ∧ ¬ wd4 (m.2.1 64) (m.1 32) (m.1 33))))) := by
  refine cg_of (List.mem_of_getElem? (show ae_MT[126]? = some mX10_isWord from rfl)) (Nat.le_of_ble_eq_true rfl) ?_
  show cg_G V mX10_isWord d q _ 0 [(0, vR 61), (1, vL x), (3, vI 8)] [] (kl m) 0 0
  have h1 : 0 ≤ m.1 32 ∧ m.1 32 ≤ 200 := hm.1 32
  have h2 : 0 ≤ m.1 33 ∧ m.1 33 ≤ 200 := hm.1 33
  have h3 : x = 255864186515 := by omega
  rcases h3 with rfl
  · refine g_aload_n (n := 0) rfl rfl ?_
    refine g_getf (v := vI (m.1 33)) rfl (kl_61 _) rfl ?_
    refine g_aload_n (n := 0) rfl rfl ?_
    refine g_getf (v := vI (m.1 32)) rfl (kl_61 _) rfl ?_
    refine g_isub rfl ?_
    refine g_iload_n (n := 3) rfl rfl ?_
    refine g_icmp_ne (by omega) (by omega) (by decide) (by decide) rfl ?_ ?_
    · intro kk4
      refine g_iconst rfl ?_
      refine g_istore (n := 4) (lo' := [(0, vR 61), (1, vL 255864186515), (3, vI 8)]) rfl rfl ?_
      refine g_iconst rfl ?_
      refine g_istore (n := 5) (lo' := [(4, vI 0), (0, vR 61), (1, vL 255864186515), (3, vI 8)]) rfl rfl ?_
      refine g_iload (n := 4) rfl rfl ?_
      refine g_if_eq (by decide) (by decide) rfl ?_ ?_
      · intro kk5
        refine g_iload (n := 4) rfl rfl ?_
        refine g_zret rfl rfl (by omega) ?_
        exact ⟨_, _, rfl, rfl, Or.inr ⟨rfl, by unfold wd4; omega⟩⟩
      · intro kk6
        exfalso; omega
    · intro kk7
      refine g_iconst rfl ?_
      refine g_goto rfl ?_
      refine g_istore (n := 4) (lo' := [(0, vR 61), (1, vL 255864186515), (3, vI 8)]) rfl rfl ?_
      refine g_iconst rfl ?_
      refine g_istore (n := 5) (lo' := [(4, vI 1), (0, vR 61), (1, vL 255864186515), (3, vI 8)]) rfl rfl ?_
      refine g_iload (n := 4) rfl rfl ?_
      refine g_if_eq (by decide) (by decide) rfl ?_ ?_
      · intro kk8
        exfalso; omega
      · intro kk9
        refine g_iload (n := 5) rfl rfl ?_
        refine g_iload_n (n := 3) rfl rfl ?_
        refine g_icmp_ge (by decide) (by decide) (by decide) (by decide) rfl ?_ ?_
        · intro kk10
          exfalso; omega
        · intro kk11
          refine g_aload_n (n := 0) rfl rfl ?_
          refine g_getf (v := vR 64) rfl (kl_61 _) rfl ?_
          refine g_aload_n (n := 0) rfl rfl ?_
          refine g_getf (v := vI (m.1 32)) rfl (kl_61 _) rfl ?_
          refine g_iload (n := 5) rfl rfl ?_
          refine g_iaddE (z := m.1 32) (by omega) rfl ?_
          have h12 : 0 ≤ m.2.1 64 (m.1 32) ∧ m.2.1 64 (m.1 32) ≤ 255 := hm.2 64 (m.1 32) (by omega) (show m.1 32 < (200 : Int) by omega)
          refine g_iald (f := m.2.1 64) rfl (kl_64 _) (by decide) (by omega) (by omega) ?_
          refine g_bipush (by decide) rfl ?_
          refine g_lload_n (n := 1) rfl rfl ?_
          refine g_iconst rfl ?_
          refine g_iload (n := 5) rfl rfl ?_
          refine g_imulE (z := 0) (by decide) rfl ?_
          refine g_lshr rfl ?_
          intro z13 h14 h15 h16
          have h17 : z13 = 255864186515 := h14.trans (by decide +kernel)
          subst h17
          refine g_ldc2 (x := 31) (by decide) rfl ?_
          refine g_land rfl ?_
          intro z18 h19 h20 h21
          have h22 : z18 = 19 := h19.trans (by decide +kernel)
          subst h22
          refine g_l2i rfl ?_
          refine g_iaddE (z := 115) (by decide) rfl ?_
          refine g_icmp_ne (by omega) (by omega) (by decide) (by decide) rfl ?_ ?_
          · intro kk23
            refine g_iconst rfl ?_
            refine g_istore (n := 4) (lo' := [(5, vI 0), (0, vR 61), (1, vL 255864186515), (3, vI 8)]) rfl rfl ?_
            refine g_iincE (z := 1) (by decide) (n := 5) (lo' := [(4, vI 0), (0, vR 61), (1, vL 255864186515), (3, vI 8)]) rfl rfl rfl ?_
            refine g_goto rfl ?_
            refine g_iload (n := 4) rfl rfl ?_
            refine g_if_eq (by decide) (by decide) rfl ?_ ?_
            · intro kk24
              refine g_iload (n := 4) rfl rfl ?_
              refine g_zret rfl rfl (by omega) ?_
              exact ⟨_, _, rfl, rfl, Or.inr ⟨rfl, by unfold wd4; omega⟩⟩
            · intro kk25
              exfalso; omega
          · intro kk26
            refine g_iconst rfl ?_
            refine g_goto rfl ?_
            refine g_istore (n := 4) (lo' := [(5, vI 0), (0, vR 61), (1, vL 255864186515), (3, vI 8)]) rfl rfl ?_
            refine g_iincE (z := 1) (by decide) (n := 5) (lo' := [(4, vI 1), (0, vR 61), (1, vL 255864186515), (3, vI 8)]) rfl rfl rfl ?_
            refine g_goto rfl ?_
            refine g_iload (n := 4) rfl rfl ?_
            refine g_if_eq (by decide) (by decide) rfl ?_ ?_
            · intro kk27
              exfalso; omega
            · intro kk28
              refine g_iload (n := 5) rfl rfl ?_
              refine g_iload_n (n := 3) rfl rfl ?_
              refine g_icmp_ge (by decide) (by decide) (by decide) (by decide) rfl ?_ ?_
              · intro kk29
                exfalso; omega
              · intro kk30
                refine g_aload_n (n := 0) rfl rfl ?_
                refine g_getf (v := vR 64) rfl (kl_61 _) rfl ?_
                refine g_aload_n (n := 0) rfl rfl ?_
                refine g_getf (v := vI (m.1 32)) rfl (kl_61 _) rfl ?_
                refine g_iload (n := 5) rfl rfl ?_
                refine g_iadd rfl ?_
                have h31 : 0 ≤ m.2.1 64 (m.1 32 + 1) ∧ m.2.1 64 (m.1 32 + 1) ≤ 255 := hm.2 64 (m.1 32 + 1) (by omega) (show (m.1 32 + 1) < (200 : Int) by omega)
                refine g_iald (f := m.2.1 64) rfl (kl_64 _) (by decide) (by omega) (by omega) ?_
                refine g_bipush (by decide) rfl ?_
                refine g_lload_n (n := 1) rfl rfl ?_
                refine g_iconst rfl ?_
                refine g_iload (n := 5) rfl rfl ?_
                refine g_imulE (z := 5) (by decide) rfl ?_
                refine g_lshr rfl ?_
                intro z32 h33 h34 h35
                have h36 : z32 = 7995755828 := h33.trans (by decide +kernel)
                subst h36
                refine g_ldc2 (x := 31) (by decide) rfl ?_
                refine g_land rfl ?_
                intro z37 h38 h39 h40
                have h41 : z37 = 20 := h38.trans (by decide +kernel)
                subst h41
                refine g_l2i rfl ?_
                refine g_iaddE (z := 116) (by decide) rfl ?_
                refine g_icmp_ne (by omega) (by omega) (by decide) (by decide) rfl ?_ ?_
                · intro kk42
                  refine g_iconst rfl ?_
                  refine g_istore (n := 4) (lo' := [(5, vI 1), (0, vR 61), (1, vL 255864186515), (3, vI 8)]) rfl rfl ?_
                  refine g_iincE (z := 2) (by decide) (n := 5) (lo' := [(4, vI 0), (0, vR 61), (1, vL 255864186515), (3, vI 8)]) rfl rfl rfl ?_
                  refine g_goto rfl ?_
                  refine g_iload (n := 4) rfl rfl ?_
                  refine g_if_eq (by decide) (by decide) rfl ?_ ?_
                  · intro kk43
                    refine g_iload (n := 4) rfl rfl ?_
                    refine g_zret rfl rfl (by omega) ?_
                    exact ⟨_, _, rfl, rfl, Or.inr ⟨rfl, by unfold wd4; omega⟩⟩
                  · intro kk44
                    exfalso; omega
                · intro kk45
                  refine g_iconst rfl ?_
                  refine g_goto rfl ?_
                  refine g_istore (n := 4) (lo' := [(5, vI 1), (0, vR 61), (1, vL 255864186515), (3, vI 8)]) rfl rfl ?_
                  refine g_iincE (z := 2) (by decide) (n := 5) (lo' := [(4, vI 1), (0, vR 61), (1, vL 255864186515), (3, vI 8)]) rfl rfl rfl ?_
                  refine g_goto rfl ?_
                  refine g_iload (n := 4) rfl rfl ?_
                  refine g_if_eq (by decide) (by decide) rfl ?_ ?_
                  · intro kk46
                    exfalso; omega
                  · intro kk47
                    refine g_iload (n := 5) rfl rfl ?_
                    refine g_iload_n (n := 3) rfl rfl ?_
                    refine g_icmp_ge (by decide) (by decide) (by decide) (by decide) rfl ?_ ?_
                    · intro kk48
                      exfalso; omega
                    · intro kk49
                      refine g_aload_n (n := 0) rfl rfl ?_
                      refine g_getf (v := vR 64) rfl (kl_61 _) rfl ?_
                      refine g_aload_n (n := 0) rfl rfl ?_
                      refine g_getf (v := vI (m.1 32)) rfl (kl_61 _) rfl ?_
                      refine g_iload (n := 5) rfl rfl ?_
                      refine g_iadd rfl ?_
                      have h50 : 0 ≤ m.2.1 64 (m.1 32 + 2) ∧ m.2.1 64 (m.1 32 + 2) ≤ 255 := hm.2 64 (m.1 32 + 2) (by omega) (show (m.1 32 + 2) < (200 : Int) by omega)
                      refine g_iald (f := m.2.1 64) rfl (kl_64 _) (by decide) (by omega) (by omega) ?_
                      refine g_bipush (by decide) rfl ?_
                      refine g_lload_n (n := 1) rfl rfl ?_
                      refine g_iconst rfl ?_
                      refine g_iload (n := 5) rfl rfl ?_
                      refine g_imulE (z := 10) (by decide) rfl ?_
                      refine g_lshr rfl ?_
                      intro z51 h52 h53 h54
                      have h55 : z51 = 249867369 := h52.trans (by decide +kernel)
                      subst h55
                      refine g_ldc2 (x := 31) (by decide) rfl ?_
                      refine g_land rfl ?_
                      intro z56 h57 h58 h59
                      have h60 : z56 = 9 := h57.trans (by decide +kernel)
                      subst h60
                      refine g_l2i rfl ?_
                      refine g_iaddE (z := 105) (by decide) rfl ?_
                      refine g_icmp_ne (by omega) (by omega) (by decide) (by decide) rfl ?_ ?_
                      · intro kk61
                        refine g_iconst rfl ?_
                        refine g_istore (n := 4) (lo' := [(5, vI 2), (0, vR 61), (1, vL 255864186515), (3, vI 8)]) rfl rfl ?_
                        refine g_iincE (z := 3) (by decide) (n := 5) (lo' := [(4, vI 0), (0, vR 61), (1, vL 255864186515), (3, vI 8)]) rfl rfl rfl ?_
                        refine g_goto rfl ?_
                        refine g_iload (n := 4) rfl rfl ?_
                        refine g_if_eq (by decide) (by decide) rfl ?_ ?_
                        · intro kk62
                          refine g_iload (n := 4) rfl rfl ?_
                          refine g_zret rfl rfl (by omega) ?_
                          exact ⟨_, _, rfl, rfl, Or.inr ⟨rfl, by unfold wd4; omega⟩⟩
                        · intro kk63
                          exfalso; omega
                      · intro kk64
                        refine g_iconst rfl ?_
                        refine g_goto rfl ?_
                        refine g_istore (n := 4) (lo' := [(5, vI 2), (0, vR 61), (1, vL 255864186515), (3, vI 8)]) rfl rfl ?_
                        refine g_iincE (z := 3) (by decide) (n := 5) (lo' := [(4, vI 1), (0, vR 61), (1, vL 255864186515), (3, vI 8)]) rfl rfl rfl ?_
                        refine g_goto rfl ?_
                        refine g_iload (n := 4) rfl rfl ?_
                        refine g_if_eq (by decide) (by decide) rfl ?_ ?_
                        · intro kk65
                          exfalso; omega
                        · intro kk66
                          refine g_iload (n := 5) rfl rfl ?_
                          refine g_iload_n (n := 3) rfl rfl ?_
                          refine g_icmp_ge (by decide) (by decide) (by decide) (by decide) rfl ?_ ?_
                          · intro kk67
                            exfalso; omega
                          · intro kk68
                            refine g_aload_n (n := 0) rfl rfl ?_
                            refine g_getf (v := vR 64) rfl (kl_61 _) rfl ?_
                            refine g_aload_n (n := 0) rfl rfl ?_
                            refine g_getf (v := vI (m.1 32)) rfl (kl_61 _) rfl ?_
                            refine g_iload (n := 5) rfl rfl ?_
                            refine g_iadd rfl ?_
                            have h69 : 0 ≤ m.2.1 64 (m.1 32 + 3) ∧ m.2.1 64 (m.1 32 + 3) ≤ 255 := hm.2 64 (m.1 32 + 3) (by omega) (show (m.1 32 + 3) < (200 : Int) by omega)
                            refine g_iald (f := m.2.1 64) rfl (kl_64 _) (by decide) (by omega) (by omega) ?_
                            refine g_bipush (by decide) rfl ?_
                            refine g_lload_n (n := 1) rfl rfl ?_
                            refine g_iconst rfl ?_
                            refine g_iload (n := 5) rfl rfl ?_
                            refine g_imulE (z := 15) (by decide) rfl ?_
                            refine g_lshr rfl ?_
                            intro z70 h71 h72 h73
                            have h74 : z70 = 7808355 := h71.trans (by decide +kernel)
                            subst h74
                            refine g_ldc2 (x := 31) (by decide) rfl ?_
                            refine g_land rfl ?_
                            intro z75 h76 h77 h78
                            have h79 : z75 = 3 := h76.trans (by decide +kernel)
                            subst h79
                            refine g_l2i rfl ?_
                            refine g_iaddE (z := 99) (by decide) rfl ?_
                            refine g_icmp_ne (by omega) (by omega) (by decide) (by decide) rfl ?_ ?_
                            · intro kk80
                              refine g_iconst rfl ?_
                              refine g_istore (n := 4) (lo' := [(5, vI 3), (0, vR 61), (1, vL 255864186515), (3, vI 8)]) rfl rfl ?_
                              refine g_iincE (z := 4) (by decide) (n := 5) (lo' := [(4, vI 0), (0, vR 61), (1, vL 255864186515), (3, vI 8)]) rfl rfl rfl ?_
                              refine g_goto rfl ?_
                              refine g_iload (n := 4) rfl rfl ?_
                              refine g_if_eq (by decide) (by decide) rfl ?_ ?_
                              · intro kk81
                                refine g_iload (n := 4) rfl rfl ?_
                                refine g_zret rfl rfl (by omega) ?_
                                exact ⟨_, _, rfl, rfl, Or.inr ⟨rfl, by unfold wd4; omega⟩⟩
                              · intro kk82
                                exfalso; omega
                            · intro kk83
                              refine g_iconst rfl ?_
                              refine g_goto rfl ?_
                              refine g_istore (n := 4) (lo' := [(5, vI 3), (0, vR 61), (1, vL 255864186515), (3, vI 8)]) rfl rfl ?_
                              refine g_iincE (z := 4) (by decide) (n := 5) (lo' := [(4, vI 1), (0, vR 61), (1, vL 255864186515), (3, vI 8)]) rfl rfl rfl ?_
                              refine g_goto rfl ?_
                              refine g_iload (n := 4) rfl rfl ?_
                              refine g_if_eq (by decide) (by decide) rfl ?_ ?_
                              · intro kk84
                                exfalso; omega
                              · intro kk85
                                refine g_iload (n := 5) rfl rfl ?_
                                refine g_iload_n (n := 3) rfl rfl ?_
                                refine g_icmp_ge (by decide) (by decide) (by decide) (by decide) rfl ?_ ?_
                                · intro kk86
                                  exfalso; omega
                                · intro kk87
                                  refine g_aload_n (n := 0) rfl rfl ?_
                                  refine g_getf (v := vR 64) rfl (kl_61 _) rfl ?_
                                  refine g_aload_n (n := 0) rfl rfl ?_
                                  refine g_getf (v := vI (m.1 32)) rfl (kl_61 _) rfl ?_
                                  refine g_iload (n := 5) rfl rfl ?_
                                  refine g_iadd rfl ?_
                                  have h88 : 0 ≤ m.2.1 64 (m.1 32 + 4) ∧ m.2.1 64 (m.1 32 + 4) ≤ 255 := hm.2 64 (m.1 32 + 4) (by omega) (show (m.1 32 + 4) < (200 : Int) by omega)
                                  refine g_iald (f := m.2.1 64) rfl (kl_64 _) (by decide) (by omega) (by omega) ?_
                                  refine g_bipush (by decide) rfl ?_
                                  refine g_lload_n (n := 1) rfl rfl ?_
                                  refine g_iconst rfl ?_
                                  refine g_iload (n := 5) rfl rfl ?_
                                  refine g_imulE (z := 20) (by decide) rfl ?_
                                  refine g_lshr rfl ?_
                                  intro z89 h90 h91 h92
                                  have h93 : z89 = 244011 := h90.trans (by decide +kernel)
                                  subst h93
                                  refine g_ldc2 (x := 31) (by decide) rfl ?_
                                  refine g_land rfl ?_
                                  intro z94 h95 h96 h97
                                  have h98 : z94 = 11 := h95.trans (by decide +kernel)
                                  subst h98
                                  refine g_l2i rfl ?_
                                  refine g_iaddE (z := 107) (by decide) rfl ?_
                                  refine g_icmp_ne (by omega) (by omega) (by decide) (by decide) rfl ?_ ?_
                                  · intro kk99
                                    refine g_iconst rfl ?_
                                    refine g_istore (n := 4) (lo' := [(5, vI 4), (0, vR 61), (1, vL 255864186515), (3, vI 8)]) rfl rfl ?_
                                    refine g_iincE (z := 5) (by decide) (n := 5) (lo' := [(4, vI 0), (0, vR 61), (1, vL 255864186515), (3, vI 8)]) rfl rfl rfl ?_
                                    refine g_goto rfl ?_
                                    refine g_iload (n := 4) rfl rfl ?_
                                    refine g_if_eq (by decide) (by decide) rfl ?_ ?_
                                    · intro kk100
                                      refine g_iload (n := 4) rfl rfl ?_
                                      refine g_zret rfl rfl (by omega) ?_
                                      exact ⟨_, _, rfl, rfl, Or.inr ⟨rfl, by unfold wd4; omega⟩⟩
                                    · intro kk101
                                      exfalso; omega
                                  · intro kk102
                                    refine g_iconst rfl ?_
                                    refine g_goto rfl ?_
                                    refine g_istore (n := 4) (lo' := [(5, vI 4), (0, vR 61), (1, vL 255864186515), (3, vI 8)]) rfl rfl ?_
                                    refine g_iincE (z := 5) (by decide) (n := 5) (lo' := [(4, vI 1), (0, vR 61), (1, vL 255864186515), (3, vI 8)]) rfl rfl rfl ?_
                                    refine g_goto rfl ?_
                                    refine g_iload (n := 4) rfl rfl ?_
                                    refine g_if_eq (by decide) (by decide) rfl ?_ ?_
                                    · intro kk103
                                      exfalso; omega
                                    · intro kk104
                                      refine g_iload (n := 5) rfl rfl ?_
                                      refine g_iload_n (n := 3) rfl rfl ?_
                                      refine g_icmp_ge (by decide) (by decide) (by decide) (by decide) rfl ?_ ?_
                                      · intro kk105
                                        exfalso; omega
                                      · intro kk106
                                        refine g_aload_n (n := 0) rfl rfl ?_
                                        refine g_getf (v := vR 64) rfl (kl_61 _) rfl ?_
                                        refine g_aload_n (n := 0) rfl rfl ?_
                                        refine g_getf (v := vI (m.1 32)) rfl (kl_61 _) rfl ?_
                                        refine g_iload (n := 5) rfl rfl ?_
                                        refine g_iadd rfl ?_
                                        have h107 : 0 ≤ m.2.1 64 (m.1 32 + 5) ∧ m.2.1 64 (m.1 32 + 5) ≤ 255 := hm.2 64 (m.1 32 + 5) (by omega) (show (m.1 32 + 5) < (200 : Int) by omega)
                                        refine g_iald (f := m.2.1 64) rfl (kl_64 _) (by decide) (by omega) (by omega) ?_
                                        refine g_bipush (by decide) rfl ?_
                                        refine g_lload_n (n := 1) rfl rfl ?_
                                        refine g_iconst rfl ?_
                                        refine g_iload (n := 5) rfl rfl ?_
                                        refine g_imulE (z := 25) (by decide) rfl ?_
                                        refine g_lshr rfl ?_
                                        intro z108 h109 h110 h111
                                        have h112 : z108 = 7625 := h109.trans (by decide +kernel)
                                        subst h112
                                        refine g_ldc2 (x := 31) (by decide) rfl ?_
                                        refine g_land rfl ?_
                                        intro z113 h114 h115 h116
                                        have h117 : z113 = 9 := h114.trans (by decide +kernel)
                                        subst h117
                                        refine g_l2i rfl ?_
                                        refine g_iaddE (z := 105) (by decide) rfl ?_
                                        refine g_icmp_ne (by omega) (by omega) (by decide) (by decide) rfl ?_ ?_
                                        · intro kk118
                                          refine g_iconst rfl ?_
                                          refine g_istore (n := 4) (lo' := [(5, vI 5), (0, vR 61), (1, vL 255864186515), (3, vI 8)]) rfl rfl ?_
                                          refine g_iincE (z := 6) (by decide) (n := 5) (lo' := [(4, vI 0), (0, vR 61), (1, vL 255864186515), (3, vI 8)]) rfl rfl rfl ?_
                                          refine g_goto rfl ?_
                                          refine g_iload (n := 4) rfl rfl ?_
                                          refine g_if_eq (by decide) (by decide) rfl ?_ ?_
                                          · intro kk119
                                            refine g_iload (n := 4) rfl rfl ?_
                                            refine g_zret rfl rfl (by omega) ?_
                                            exact ⟨_, _, rfl, rfl, Or.inr ⟨rfl, by unfold wd4; omega⟩⟩
                                          · intro kk120
                                            exfalso; omega
                                        · intro kk121
                                          refine g_iconst rfl ?_
                                          refine g_goto rfl ?_
                                          refine g_istore (n := 4) (lo' := [(5, vI 5), (0, vR 61), (1, vL 255864186515), (3, vI 8)]) rfl rfl ?_
                                          refine g_iincE (z := 6) (by decide) (n := 5) (lo' := [(4, vI 1), (0, vR 61), (1, vL 255864186515), (3, vI 8)]) rfl rfl rfl ?_
                                          refine g_goto rfl ?_
                                          refine g_iload (n := 4) rfl rfl ?_
                                          refine g_if_eq (by decide) (by decide) rfl ?_ ?_
                                          · intro kk122
                                            exfalso; omega
                                          · intro kk123
                                            refine g_iload (n := 5) rfl rfl ?_
                                            refine g_iload_n (n := 3) rfl rfl ?_
                                            refine g_icmp_ge (by decide) (by decide) (by decide) (by decide) rfl ?_ ?_
                                            · intro kk124
                                              exfalso; omega
                                            · intro kk125
                                              refine g_aload_n (n := 0) rfl rfl ?_
                                              refine g_getf (v := vR 64) rfl (kl_61 _) rfl ?_
                                              refine g_aload_n (n := 0) rfl rfl ?_
                                              refine g_getf (v := vI (m.1 32)) rfl (kl_61 _) rfl ?_
                                              refine g_iload (n := 5) rfl rfl ?_
                                              refine g_iadd rfl ?_
                                              have h126 : 0 ≤ m.2.1 64 (m.1 32 + 6) ∧ m.2.1 64 (m.1 32 + 6) ≤ 255 := hm.2 64 (m.1 32 + 6) (by omega) (show (m.1 32 + 6) < (200 : Int) by omega)
                                              refine g_iald (f := m.2.1 64) rfl (kl_64 _) (by decide) (by omega) (by omega) ?_
                                              refine g_bipush (by decide) rfl ?_
                                              refine g_lload_n (n := 1) rfl rfl ?_
                                              refine g_iconst rfl ?_
                                              refine g_iload (n := 5) rfl rfl ?_
                                              refine g_imulE (z := 30) (by decide) rfl ?_
                                              refine g_lshr rfl ?_
                                              intro z127 h128 h129 h130
                                              have h131 : z127 = 238 := h128.trans (by decide +kernel)
                                              subst h131
                                              refine g_ldc2 (x := 31) (by decide) rfl ?_
                                              refine g_land rfl ?_
                                              intro z132 h133 h134 h135
                                              have h136 : z132 = 14 := h133.trans (by decide +kernel)
                                              subst h136
                                              refine g_l2i rfl ?_
                                              refine g_iaddE (z := 110) (by decide) rfl ?_
                                              refine g_icmp_ne (by omega) (by omega) (by decide) (by decide) rfl ?_ ?_
                                              · intro kk137
                                                refine g_iconst rfl ?_
                                                refine g_istore (n := 4) (lo' := [(5, vI 6), (0, vR 61), (1, vL 255864186515), (3, vI 8)]) rfl rfl ?_
                                                refine g_iincE (z := 7) (by decide) (n := 5) (lo' := [(4, vI 0), (0, vR 61), (1, vL 255864186515), (3, vI 8)]) rfl rfl rfl ?_
                                                refine g_goto rfl ?_
                                                refine g_iload (n := 4) rfl rfl ?_
                                                refine g_if_eq (by decide) (by decide) rfl ?_ ?_
                                                · intro kk138
                                                  refine g_iload (n := 4) rfl rfl ?_
                                                  refine g_zret rfl rfl (by omega) ?_
                                                  exact ⟨_, _, rfl, rfl, Or.inr ⟨rfl, by unfold wd4; omega⟩⟩
                                                · intro kk139
                                                  exfalso; omega
                                              · intro kk140
                                                refine g_iconst rfl ?_
                                                refine g_goto rfl ?_
                                                refine g_istore (n := 4) (lo' := [(5, vI 6), (0, vR 61), (1, vL 255864186515), (3, vI 8)]) rfl rfl ?_
                                                refine g_iincE (z := 7) (by decide) (n := 5) (lo' := [(4, vI 1), (0, vR 61), (1, vL 255864186515), (3, vI 8)]) rfl rfl rfl ?_
                                                refine g_goto rfl ?_
                                                refine g_iload (n := 4) rfl rfl ?_
                                                refine g_if_eq (by decide) (by decide) rfl ?_ ?_
                                                · intro kk141
                                                  exfalso; omega
                                                · intro kk142
                                                  refine g_iload (n := 5) rfl rfl ?_
                                                  refine g_iload_n (n := 3) rfl rfl ?_
                                                  refine g_icmp_ge (by decide) (by decide) (by decide) (by decide) rfl ?_ ?_
                                                  · intro kk143
                                                    exfalso; omega
                                                  · intro kk144
                                                    refine g_aload_n (n := 0) rfl rfl ?_
                                                    refine g_getf (v := vR 64) rfl (kl_61 _) rfl ?_
                                                    refine g_aload_n (n := 0) rfl rfl ?_
                                                    refine g_getf (v := vI (m.1 32)) rfl (kl_61 _) rfl ?_
                                                    refine g_iload (n := 5) rfl rfl ?_
                                                    refine g_iadd rfl ?_
                                                    have h145 : 0 ≤ m.2.1 64 (m.1 32 + 7) ∧ m.2.1 64 (m.1 32 + 7) ≤ 255 := hm.2 64 (m.1 32 + 7) (by omega) (show (m.1 32 + 7) < (200 : Int) by omega)
                                                    refine g_iald (f := m.2.1 64) rfl (kl_64 _) (by decide) (by omega) (by omega) ?_
                                                    refine g_bipush (by decide) rfl ?_
                                                    refine g_lload_n (n := 1) rfl rfl ?_
                                                    refine g_iconst rfl ?_
                                                    refine g_iload (n := 5) rfl rfl ?_
                                                    refine g_imulE (z := 35) (by decide) rfl ?_
                                                    refine g_lshr rfl ?_
                                                    intro z146 h147 h148 h149
                                                    have h150 : z146 = 7 := h147.trans (by decide +kernel)
                                                    subst h150
                                                    refine g_ldc2 (x := 31) (by decide) rfl ?_
                                                    refine g_land rfl ?_
                                                    intro z151 h152 h153 h154
                                                    have h155 : z151 = 7 := h152.trans (by decide +kernel)
                                                    subst h155
                                                    refine g_l2i rfl ?_
                                                    refine g_iaddE (z := 103) (by decide) rfl ?_
                                                    refine g_icmp_ne (by omega) (by omega) (by decide) (by decide) rfl ?_ ?_
                                                    · intro kk156
                                                      refine g_iconst rfl ?_
                                                      refine g_istore (n := 4) (lo' := [(5, vI 7), (0, vR 61), (1, vL 255864186515), (3, vI 8)]) rfl rfl ?_
                                                      refine g_iincE (z := 8) (by decide) (n := 5) (lo' := [(4, vI 0), (0, vR 61), (1, vL 255864186515), (3, vI 8)]) rfl rfl rfl ?_
                                                      refine g_goto rfl ?_
                                                      refine g_iload (n := 4) rfl rfl ?_
                                                      refine g_if_eq (by decide) (by decide) rfl ?_ ?_
                                                      · intro kk157
                                                        refine g_iload (n := 4) rfl rfl ?_
                                                        refine g_zret rfl rfl (by omega) ?_
                                                        exact ⟨_, _, rfl, rfl, Or.inr ⟨rfl, by unfold wd4; omega⟩⟩
                                                      · intro kk158
                                                        exfalso; omega
                                                    · intro kk159
                                                      refine g_iconst rfl ?_
                                                      refine g_goto rfl ?_
                                                      refine g_istore (n := 4) (lo' := [(5, vI 7), (0, vR 61), (1, vL 255864186515), (3, vI 8)]) rfl rfl ?_
                                                      refine g_iincE (z := 8) (by decide) (n := 5) (lo' := [(4, vI 1), (0, vR 61), (1, vL 255864186515), (3, vI 8)]) rfl rfl rfl ?_
                                                      refine g_goto rfl ?_
                                                      refine g_iload (n := 4) rfl rfl ?_
                                                      refine g_if_eq (by decide) (by decide) rfl ?_ ?_
                                                      · intro kk160
                                                        exfalso; omega
                                                      · intro kk161
                                                        refine g_iload (n := 5) rfl rfl ?_
                                                        refine g_iload_n (n := 3) rfl rfl ?_
                                                        refine g_icmp_ge (by decide) (by decide) (by decide) (by decide) rfl ?_ ?_
                                                        · intro kk162
                                                          refine g_iload (n := 4) rfl rfl ?_
                                                          refine g_zret rfl rfl (by omega) ?_
                                                          exact ⟨_, _, rfl, rfl, Or.inl ⟨rfl, by unfold wd4; omega⟩⟩
                                                        · intro kk163
                                                          exfalso; omega
theorem d_isWord_5 {V : cg_V} {d q : Nat} (hd : 0 ≤ d) (hq : 0 ≤ q) {m : kM} (hm : kI m) {x : Int} (h_x : 5877798 ≤ x ∧ x ≤ 5877798) : cg_S V d q mX10_isWord [vR 61, vL x, vI 5] (kl m) (R_I (fun z m' => (m = m') ∧ ((z = 1 ∧ wd5 (m.2.1 64) (m.1 32) (m.1 33)) ∨ (z = 0 ∧ ¬ wd5 (m.2.1 64) (m.1 32) (m.1 33))))) := by
  refine cg_of (List.mem_of_getElem? (show ae_MT[126]? = some mX10_isWord from rfl)) (Nat.le_of_ble_eq_true rfl) ?_
  show cg_G V mX10_isWord d q _ 0 [(0, vR 61), (1, vL x), (3, vI 5)] [] (kl m) 0 0
  have h1 : 0 ≤ m.1 32 ∧ m.1 32 ≤ 200 := hm.1 32
  have h2 : 0 ≤ m.1 33 ∧ m.1 33 ≤ 200 := hm.1 33
  have h3 : x = 5877798 := by omega
  rcases h3 with rfl
  · refine g_aload_n (n := 0) rfl rfl ?_
    refine g_getf (v := vI (m.1 33)) rfl (kl_61 _) rfl ?_
    refine g_aload_n (n := 0) rfl rfl ?_
    refine g_getf (v := vI (m.1 32)) rfl (kl_61 _) rfl ?_
    refine g_isub rfl ?_
    refine g_iload_n (n := 3) rfl rfl ?_
    refine g_icmp_ne (by omega) (by omega) (by decide) (by decide) rfl ?_ ?_
    · intro kk4
      refine g_iconst rfl ?_
      refine g_istore (n := 4) (lo' := [(0, vR 61), (1, vL 5877798), (3, vI 5)]) rfl rfl ?_
      refine g_iconst rfl ?_
      refine g_istore (n := 5) (lo' := [(4, vI 0), (0, vR 61), (1, vL 5877798), (3, vI 5)]) rfl rfl ?_
      refine g_iload (n := 4) rfl rfl ?_
      refine g_if_eq (by decide) (by decide) rfl ?_ ?_
      · intro kk5
        refine g_iload (n := 4) rfl rfl ?_
        refine g_zret rfl rfl (by omega) ?_
        exact ⟨_, _, rfl, rfl, Or.inr ⟨rfl, by unfold wd5; omega⟩⟩
      · intro kk6
        exfalso; omega
    · intro kk7
      refine g_iconst rfl ?_
      refine g_goto rfl ?_
      refine g_istore (n := 4) (lo' := [(0, vR 61), (1, vL 5877798), (3, vI 5)]) rfl rfl ?_
      refine g_iconst rfl ?_
      refine g_istore (n := 5) (lo' := [(4, vI 1), (0, vR 61), (1, vL 5877798), (3, vI 5)]) rfl rfl ?_
      refine g_iload (n := 4) rfl rfl ?_
      refine g_if_eq (by decide) (by decide) rfl ?_ ?_
      · intro kk8
        exfalso; omega
      · intro kk9
        refine g_iload (n := 5) rfl rfl ?_
        refine g_iload_n (n := 3) rfl rfl ?_
        refine g_icmp_ge (by decide) (by decide) (by decide) (by decide) rfl ?_ ?_
        · intro kk10
          exfalso; omega
        · intro kk11
          refine g_aload_n (n := 0) rfl rfl ?_
          refine g_getf (v := vR 64) rfl (kl_61 _) rfl ?_
          refine g_aload_n (n := 0) rfl rfl ?_
          refine g_getf (v := vI (m.1 32)) rfl (kl_61 _) rfl ?_
          refine g_iload (n := 5) rfl rfl ?_
          refine g_iaddE (z := m.1 32) (by omega) rfl ?_
          have h12 : 0 ≤ m.2.1 64 (m.1 32) ∧ m.2.1 64 (m.1 32) ≤ 255 := hm.2 64 (m.1 32) (by omega) (show m.1 32 < (200 : Int) by omega)
          refine g_iald (f := m.2.1 64) rfl (kl_64 _) (by decide) (by omega) (by omega) ?_
          refine g_bipush (by decide) rfl ?_
          refine g_lload_n (n := 1) rfl rfl ?_
          refine g_iconst rfl ?_
          refine g_iload (n := 5) rfl rfl ?_
          refine g_imulE (z := 0) (by decide) rfl ?_
          refine g_lshr rfl ?_
          intro z13 h14 h15 h16
          have h17 : z13 = 5877798 := h14.trans (by decide +kernel)
          subst h17
          refine g_ldc2 (x := 31) (by decide) rfl ?_
          refine g_land rfl ?_
          intro z18 h19 h20 h21
          have h22 : z18 = 6 := h19.trans (by decide +kernel)
          subst h22
          refine g_l2i rfl ?_
          refine g_iaddE (z := 102) (by decide) rfl ?_
          refine g_icmp_ne (by omega) (by omega) (by decide) (by decide) rfl ?_ ?_
          · intro kk23
            refine g_iconst rfl ?_
            refine g_istore (n := 4) (lo' := [(5, vI 0), (0, vR 61), (1, vL 5877798), (3, vI 5)]) rfl rfl ?_
            refine g_iincE (z := 1) (by decide) (n := 5) (lo' := [(4, vI 0), (0, vR 61), (1, vL 5877798), (3, vI 5)]) rfl rfl rfl ?_
            refine g_goto rfl ?_
            refine g_iload (n := 4) rfl rfl ?_
            refine g_if_eq (by decide) (by decide) rfl ?_ ?_
            · intro kk24
              refine g_iload (n := 4) rfl rfl ?_
              refine g_zret rfl rfl (by omega) ?_
              exact ⟨_, _, rfl, rfl, Or.inr ⟨rfl, by unfold wd5; omega⟩⟩
            · intro kk25
              exfalso; omega
          · intro kk26
            refine g_iconst rfl ?_
            refine g_goto rfl ?_
            refine g_istore (n := 4) (lo' := [(5, vI 0), (0, vR 61), (1, vL 5877798), (3, vI 5)]) rfl rfl ?_
            refine g_iincE (z := 1) (by decide) (n := 5) (lo' := [(4, vI 1), (0, vR 61), (1, vL 5877798), (3, vI 5)]) rfl rfl rfl ?_
            refine g_goto rfl ?_
            refine g_iload (n := 4) rfl rfl ?_
            refine g_if_eq (by decide) (by decide) rfl ?_ ?_
            · intro kk27
              exfalso; omega
            · intro kk28
              refine g_iload (n := 5) rfl rfl ?_
              refine g_iload_n (n := 3) rfl rfl ?_
              refine g_icmp_ge (by decide) (by decide) (by decide) (by decide) rfl ?_ ?_
              · intro kk29
                exfalso; omega
              · intro kk30
                refine g_aload_n (n := 0) rfl rfl ?_
                refine g_getf (v := vR 64) rfl (kl_61 _) rfl ?_
                refine g_aload_n (n := 0) rfl rfl ?_
                refine g_getf (v := vI (m.1 32)) rfl (kl_61 _) rfl ?_
                refine g_iload (n := 5) rfl rfl ?_
                refine g_iadd rfl ?_
                have h31 : 0 ≤ m.2.1 64 (m.1 32 + 1) ∧ m.2.1 64 (m.1 32 + 1) ≤ 255 := hm.2 64 (m.1 32 + 1) (by omega) (show (m.1 32 + 1) < (200 : Int) by omega)
                refine g_iald (f := m.2.1 64) rfl (kl_64 _) (by decide) (by omega) (by omega) ?_
                refine g_bipush (by decide) rfl ?_
                refine g_lload_n (n := 1) rfl rfl ?_
                refine g_iconst rfl ?_
                refine g_iload (n := 5) rfl rfl ?_
                refine g_imulE (z := 5) (by decide) rfl ?_
                refine g_lshr rfl ?_
                intro z32 h33 h34 h35
                have h36 : z32 = 183681 := h33.trans (by decide +kernel)
                subst h36
                refine g_ldc2 (x := 31) (by decide) rfl ?_
                refine g_land rfl ?_
                intro z37 h38 h39 h40
                have h41 : z37 = 1 := h38.trans (by decide +kernel)
                subst h41
                refine g_l2i rfl ?_
                refine g_iaddE (z := 97) (by decide) rfl ?_
                refine g_icmp_ne (by omega) (by omega) (by decide) (by decide) rfl ?_ ?_
                · intro kk42
                  refine g_iconst rfl ?_
                  refine g_istore (n := 4) (lo' := [(5, vI 1), (0, vR 61), (1, vL 5877798), (3, vI 5)]) rfl rfl ?_
                  refine g_iincE (z := 2) (by decide) (n := 5) (lo' := [(4, vI 0), (0, vR 61), (1, vL 5877798), (3, vI 5)]) rfl rfl rfl ?_
                  refine g_goto rfl ?_
                  refine g_iload (n := 4) rfl rfl ?_
                  refine g_if_eq (by decide) (by decide) rfl ?_ ?_
                  · intro kk43
                    refine g_iload (n := 4) rfl rfl ?_
                    refine g_zret rfl rfl (by omega) ?_
                    exact ⟨_, _, rfl, rfl, Or.inr ⟨rfl, by unfold wd5; omega⟩⟩
                  · intro kk44
                    exfalso; omega
                · intro kk45
                  refine g_iconst rfl ?_
                  refine g_goto rfl ?_
                  refine g_istore (n := 4) (lo' := [(5, vI 1), (0, vR 61), (1, vL 5877798), (3, vI 5)]) rfl rfl ?_
                  refine g_iincE (z := 2) (by decide) (n := 5) (lo' := [(4, vI 1), (0, vR 61), (1, vL 5877798), (3, vI 5)]) rfl rfl rfl ?_
                  refine g_goto rfl ?_
                  refine g_iload (n := 4) rfl rfl ?_
                  refine g_if_eq (by decide) (by decide) rfl ?_ ?_
                  · intro kk46
                    exfalso; omega
                  · intro kk47
                    refine g_iload (n := 5) rfl rfl ?_
                    refine g_iload_n (n := 3) rfl rfl ?_
                    refine g_icmp_ge (by decide) (by decide) (by decide) (by decide) rfl ?_ ?_
                    · intro kk48
                      exfalso; omega
                    · intro kk49
                      refine g_aload_n (n := 0) rfl rfl ?_
                      refine g_getf (v := vR 64) rfl (kl_61 _) rfl ?_
                      refine g_aload_n (n := 0) rfl rfl ?_
                      refine g_getf (v := vI (m.1 32)) rfl (kl_61 _) rfl ?_
                      refine g_iload (n := 5) rfl rfl ?_
                      refine g_iadd rfl ?_
                      have h50 : 0 ≤ m.2.1 64 (m.1 32 + 2) ∧ m.2.1 64 (m.1 32 + 2) ≤ 255 := hm.2 64 (m.1 32 + 2) (by omega) (show (m.1 32 + 2) < (200 : Int) by omega)
                      refine g_iald (f := m.2.1 64) rfl (kl_64 _) (by decide) (by omega) (by omega) ?_
                      refine g_bipush (by decide) rfl ?_
                      refine g_lload_n (n := 1) rfl rfl ?_
                      refine g_iconst rfl ?_
                      refine g_iload (n := 5) rfl rfl ?_
                      refine g_imulE (z := 10) (by decide) rfl ?_
                      refine g_lshr rfl ?_
                      intro z51 h52 h53 h54
                      have h55 : z51 = 5740 := h52.trans (by decide +kernel)
                      subst h55
                      refine g_ldc2 (x := 31) (by decide) rfl ?_
                      refine g_land rfl ?_
                      intro z56 h57 h58 h59
                      have h60 : z56 = 12 := h57.trans (by decide +kernel)
                      subst h60
                      refine g_l2i rfl ?_
                      refine g_iaddE (z := 108) (by decide) rfl ?_
                      refine g_icmp_ne (by omega) (by omega) (by decide) (by decide) rfl ?_ ?_
                      · intro kk61
                        refine g_iconst rfl ?_
                        refine g_istore (n := 4) (lo' := [(5, vI 2), (0, vR 61), (1, vL 5877798), (3, vI 5)]) rfl rfl ?_
                        refine g_iincE (z := 3) (by decide) (n := 5) (lo' := [(4, vI 0), (0, vR 61), (1, vL 5877798), (3, vI 5)]) rfl rfl rfl ?_
                        refine g_goto rfl ?_
                        refine g_iload (n := 4) rfl rfl ?_
                        refine g_if_eq (by decide) (by decide) rfl ?_ ?_
                        · intro kk62
                          refine g_iload (n := 4) rfl rfl ?_
                          refine g_zret rfl rfl (by omega) ?_
                          exact ⟨_, _, rfl, rfl, Or.inr ⟨rfl, by unfold wd5; omega⟩⟩
                        · intro kk63
                          exfalso; omega
                      · intro kk64
                        refine g_iconst rfl ?_
                        refine g_goto rfl ?_
                        refine g_istore (n := 4) (lo' := [(5, vI 2), (0, vR 61), (1, vL 5877798), (3, vI 5)]) rfl rfl ?_
                        refine g_iincE (z := 3) (by decide) (n := 5) (lo' := [(4, vI 1), (0, vR 61), (1, vL 5877798), (3, vI 5)]) rfl rfl rfl ?_
                        refine g_goto rfl ?_
                        refine g_iload (n := 4) rfl rfl ?_
                        refine g_if_eq (by decide) (by decide) rfl ?_ ?_
                        · intro kk65
                          exfalso; omega
                        · intro kk66
                          refine g_iload (n := 5) rfl rfl ?_
                          refine g_iload_n (n := 3) rfl rfl ?_
                          refine g_icmp_ge (by decide) (by decide) (by decide) (by decide) rfl ?_ ?_
                          · intro kk67
                            exfalso; omega
                          · intro kk68
                            refine g_aload_n (n := 0) rfl rfl ?_
                            refine g_getf (v := vR 64) rfl (kl_61 _) rfl ?_
                            refine g_aload_n (n := 0) rfl rfl ?_
                            refine g_getf (v := vI (m.1 32)) rfl (kl_61 _) rfl ?_
                            refine g_iload (n := 5) rfl rfl ?_
                            refine g_iadd rfl ?_
                            have h69 : 0 ≤ m.2.1 64 (m.1 32 + 3) ∧ m.2.1 64 (m.1 32 + 3) ≤ 255 := hm.2 64 (m.1 32 + 3) (by omega) (show (m.1 32 + 3) < (200 : Int) by omega)
                            refine g_iald (f := m.2.1 64) rfl (kl_64 _) (by decide) (by omega) (by omega) ?_
                            refine g_bipush (by decide) rfl ?_
                            refine g_lload_n (n := 1) rfl rfl ?_
                            refine g_iconst rfl ?_
                            refine g_iload (n := 5) rfl rfl ?_
                            refine g_imulE (z := 15) (by decide) rfl ?_
                            refine g_lshr rfl ?_
                            intro z70 h71 h72 h73
                            have h74 : z70 = 179 := h71.trans (by decide +kernel)
                            subst h74
                            refine g_ldc2 (x := 31) (by decide) rfl ?_
                            refine g_land rfl ?_
                            intro z75 h76 h77 h78
                            have h79 : z75 = 19 := h76.trans (by decide +kernel)
                            subst h79
                            refine g_l2i rfl ?_
                            refine g_iaddE (z := 115) (by decide) rfl ?_
                            refine g_icmp_ne (by omega) (by omega) (by decide) (by decide) rfl ?_ ?_
                            · intro kk80
                              refine g_iconst rfl ?_
                              refine g_istore (n := 4) (lo' := [(5, vI 3), (0, vR 61), (1, vL 5877798), (3, vI 5)]) rfl rfl ?_
                              refine g_iincE (z := 4) (by decide) (n := 5) (lo' := [(4, vI 0), (0, vR 61), (1, vL 5877798), (3, vI 5)]) rfl rfl rfl ?_
                              refine g_goto rfl ?_
                              refine g_iload (n := 4) rfl rfl ?_
                              refine g_if_eq (by decide) (by decide) rfl ?_ ?_
                              · intro kk81
                                refine g_iload (n := 4) rfl rfl ?_
                                refine g_zret rfl rfl (by omega) ?_
                                exact ⟨_, _, rfl, rfl, Or.inr ⟨rfl, by unfold wd5; omega⟩⟩
                              · intro kk82
                                exfalso; omega
                            · intro kk83
                              refine g_iconst rfl ?_
                              refine g_goto rfl ?_
                              refine g_istore (n := 4) (lo' := [(5, vI 3), (0, vR 61), (1, vL 5877798), (3, vI 5)]) rfl rfl ?_
                              refine g_iincE (z := 4) (by decide) (n := 5) (lo' := [(4, vI 1), (0, vR 61), (1, vL 5877798), (3, vI 5)]) rfl rfl rfl ?_
                              refine g_goto rfl ?_
                              refine g_iload (n := 4) rfl rfl ?_
                              refine g_if_eq (by decide) (by decide) rfl ?_ ?_
                              · intro kk84
                                exfalso; omega
                              · intro kk85
                                refine g_iload (n := 5) rfl rfl ?_
                                refine g_iload_n (n := 3) rfl rfl ?_
                                refine g_icmp_ge (by decide) (by decide) (by decide) (by decide) rfl ?_ ?_
                                · intro kk86
                                  exfalso; omega
                                · intro kk87
                                  refine g_aload_n (n := 0) rfl rfl ?_
                                  refine g_getf (v := vR 64) rfl (kl_61 _) rfl ?_
                                  refine g_aload_n (n := 0) rfl rfl ?_
                                  refine g_getf (v := vI (m.1 32)) rfl (kl_61 _) rfl ?_
                                  refine g_iload (n := 5) rfl rfl ?_
                                  refine g_iadd rfl ?_
                                  have h88 : 0 ≤ m.2.1 64 (m.1 32 + 4) ∧ m.2.1 64 (m.1 32 + 4) ≤ 255 := hm.2 64 (m.1 32 + 4) (by omega) (show (m.1 32 + 4) < (200 : Int) by omega)
                                  refine g_iald (f := m.2.1 64) rfl (kl_64 _) (by decide) (by omega) (by omega) ?_
                                  refine g_bipush (by decide) rfl ?_
                                  refine g_lload_n (n := 1) rfl rfl ?_
                                  refine g_iconst rfl ?_
                                  refine g_iload (n := 5) rfl rfl ?_
                                  refine g_imulE (z := 20) (by decide) rfl ?_
                                  refine g_lshr rfl ?_
                                  intro z89 h90 h91 h92
                                  have h93 : z89 = 5 := h90.trans (by decide +kernel)
                                  subst h93
                                  refine g_ldc2 (x := 31) (by decide) rfl ?_
                                  refine g_land rfl ?_
                                  intro z94 h95 h96 h97
                                  have h98 : z94 = 5 := h95.trans (by decide +kernel)
                                  subst h98
                                  refine g_l2i rfl ?_
                                  refine g_iaddE (z := 101) (by decide) rfl ?_
                                  refine g_icmp_ne (by omega) (by omega) (by decide) (by decide) rfl ?_ ?_
                                  · intro kk99
                                    refine g_iconst rfl ?_
                                    refine g_istore (n := 4) (lo' := [(5, vI 4), (0, vR 61), (1, vL 5877798), (3, vI 5)]) rfl rfl ?_
                                    refine g_iincE (z := 5) (by decide) (n := 5) (lo' := [(4, vI 0), (0, vR 61), (1, vL 5877798), (3, vI 5)]) rfl rfl rfl ?_
                                    refine g_goto rfl ?_
                                    refine g_iload (n := 4) rfl rfl ?_
                                    refine g_if_eq (by decide) (by decide) rfl ?_ ?_
                                    · intro kk100
                                      refine g_iload (n := 4) rfl rfl ?_
                                      refine g_zret rfl rfl (by omega) ?_
                                      exact ⟨_, _, rfl, rfl, Or.inr ⟨rfl, by unfold wd5; omega⟩⟩
                                    · intro kk101
                                      exfalso; omega
                                  · intro kk102
                                    refine g_iconst rfl ?_
                                    refine g_goto rfl ?_
                                    refine g_istore (n := 4) (lo' := [(5, vI 4), (0, vR 61), (1, vL 5877798), (3, vI 5)]) rfl rfl ?_
                                    refine g_iincE (z := 5) (by decide) (n := 5) (lo' := [(4, vI 1), (0, vR 61), (1, vL 5877798), (3, vI 5)]) rfl rfl rfl ?_
                                    refine g_goto rfl ?_
                                    refine g_iload (n := 4) rfl rfl ?_
                                    refine g_if_eq (by decide) (by decide) rfl ?_ ?_
                                    · intro kk103
                                      exfalso; omega
                                    · intro kk104
                                      refine g_iload (n := 5) rfl rfl ?_
                                      refine g_iload_n (n := 3) rfl rfl ?_
                                      refine g_icmp_ge (by decide) (by decide) (by decide) (by decide) rfl ?_ ?_
                                      · intro kk105
                                        refine g_iload (n := 4) rfl rfl ?_
                                        refine g_zret rfl rfl (by omega) ?_
                                        exact ⟨_, _, rfl, rfl, Or.inl ⟨rfl, by unfold wd5; omega⟩⟩
                                      · intro kk106
                                        exfalso; omega
theorem d_isWord_6 {V : cg_V} {d q : Nat} (hd : 0 ≤ d) (hq : 0 ≤ q) {m : kM} (hm : kI m) {x : Int} (h_x : 408615 ≤ x ∧ x ≤ 408615) : cg_S V d q mX10_isWord [vR 61, vL x, vI 4] (kl m) (R_I (fun z m' => (m = m') ∧ ((z = 1 ∧ wd6 (m.2.1 64) (m.1 32) (m.1 33)) ∨ (z = 0 ∧ ¬ wd6 (m.2.1 64) (m.1 32) (m.1 33))))) := by
  refine cg_of (List.mem_of_getElem? (show ae_MT[126]? = some mX10_isWord from rfl)) (Nat.le_of_ble_eq_true rfl) ?_
  show cg_G V mX10_isWord d q _ 0 [(0, vR 61), (1, vL x), (3, vI 4)] [] (kl m) 0 0
  have h1 : 0 ≤ m.1 32 ∧ m.1 32 ≤ 200 := hm.1 32
  have h2 : 0 ≤ m.1 33 ∧ m.1 33 ≤ 200 := hm.1 33
  have h3 : x = 408615 := by omega
  rcases h3 with rfl
  · refine g_aload_n (n := 0) rfl rfl ?_
    refine g_getf (v := vI (m.1 33)) rfl (kl_61 _) rfl ?_
    refine g_aload_n (n := 0) rfl rfl ?_
    refine g_getf (v := vI (m.1 32)) rfl (kl_61 _) rfl ?_
    refine g_isub rfl ?_
    refine g_iload_n (n := 3) rfl rfl ?_
    refine g_icmp_ne (by omega) (by omega) (by decide) (by decide) rfl ?_ ?_
    · intro kk4
      refine g_iconst rfl ?_
      refine g_istore (n := 4) (lo' := [(0, vR 61), (1, vL 408615), (3, vI 4)]) rfl rfl ?_
      refine g_iconst rfl ?_
      refine g_istore (n := 5) (lo' := [(4, vI 0), (0, vR 61), (1, vL 408615), (3, vI 4)]) rfl rfl ?_
      refine g_iload (n := 4) rfl rfl ?_
      refine g_if_eq (by decide) (by decide) rfl ?_ ?_
      · intro kk5
        refine g_iload (n := 4) rfl rfl ?_
        refine g_zret rfl rfl (by omega) ?_
        exact ⟨_, _, rfl, rfl, Or.inr ⟨rfl, by unfold wd6; omega⟩⟩
      · intro kk6
        exfalso; omega
    · intro kk7
      refine g_iconst rfl ?_
      refine g_goto rfl ?_
      refine g_istore (n := 4) (lo' := [(0, vR 61), (1, vL 408615), (3, vI 4)]) rfl rfl ?_
      refine g_iconst rfl ?_
      refine g_istore (n := 5) (lo' := [(4, vI 1), (0, vR 61), (1, vL 408615), (3, vI 4)]) rfl rfl ?_
      refine g_iload (n := 4) rfl rfl ?_
      refine g_if_eq (by decide) (by decide) rfl ?_ ?_
      · intro kk8
        exfalso; omega
      · intro kk9
        refine g_iload (n := 5) rfl rfl ?_
        refine g_iload_n (n := 3) rfl rfl ?_
        refine g_icmp_ge (by decide) (by decide) (by decide) (by decide) rfl ?_ ?_
        · intro kk10
          exfalso; omega
        · intro kk11
          refine g_aload_n (n := 0) rfl rfl ?_
          refine g_getf (v := vR 64) rfl (kl_61 _) rfl ?_
          refine g_aload_n (n := 0) rfl rfl ?_
          refine g_getf (v := vI (m.1 32)) rfl (kl_61 _) rfl ?_
          refine g_iload (n := 5) rfl rfl ?_
          refine g_iaddE (z := m.1 32) (by omega) rfl ?_
          have h12 : 0 ≤ m.2.1 64 (m.1 32) ∧ m.2.1 64 (m.1 32) ≤ 255 := hm.2 64 (m.1 32) (by omega) (show m.1 32 < (200 : Int) by omega)
          refine g_iald (f := m.2.1 64) rfl (kl_64 _) (by decide) (by omega) (by omega) ?_
          refine g_bipush (by decide) rfl ?_
          refine g_lload_n (n := 1) rfl rfl ?_
          refine g_iconst rfl ?_
          refine g_iload (n := 5) rfl rfl ?_
          refine g_imulE (z := 0) (by decide) rfl ?_
          refine g_lshr rfl ?_
          intro z13 h14 h15 h16
          have h17 : z13 = 408615 := h14.trans (by decide +kernel)
          subst h17
          refine g_ldc2 (x := 31) (by decide) rfl ?_
          refine g_land rfl ?_
          intro z18 h19 h20 h21
          have h22 : z18 = 7 := h19.trans (by decide +kernel)
          subst h22
          refine g_l2i rfl ?_
          refine g_iaddE (z := 103) (by decide) rfl ?_
          refine g_icmp_ne (by omega) (by omega) (by decide) (by decide) rfl ?_ ?_
          · intro kk23
            refine g_iconst rfl ?_
            refine g_istore (n := 4) (lo' := [(5, vI 0), (0, vR 61), (1, vL 408615), (3, vI 4)]) rfl rfl ?_
            refine g_iincE (z := 1) (by decide) (n := 5) (lo' := [(4, vI 0), (0, vR 61), (1, vL 408615), (3, vI 4)]) rfl rfl rfl ?_
            refine g_goto rfl ?_
            refine g_iload (n := 4) rfl rfl ?_
            refine g_if_eq (by decide) (by decide) rfl ?_ ?_
            · intro kk24
              refine g_iload (n := 4) rfl rfl ?_
              refine g_zret rfl rfl (by omega) ?_
              exact ⟨_, _, rfl, rfl, Or.inr ⟨rfl, by unfold wd6; omega⟩⟩
            · intro kk25
              exfalso; omega
          · intro kk26
            refine g_iconst rfl ?_
            refine g_goto rfl ?_
            refine g_istore (n := 4) (lo' := [(5, vI 0), (0, vR 61), (1, vL 408615), (3, vI 4)]) rfl rfl ?_
            refine g_iincE (z := 1) (by decide) (n := 5) (lo' := [(4, vI 1), (0, vR 61), (1, vL 408615), (3, vI 4)]) rfl rfl rfl ?_
            refine g_goto rfl ?_
            refine g_iload (n := 4) rfl rfl ?_
            refine g_if_eq (by decide) (by decide) rfl ?_ ?_
            · intro kk27
              exfalso; omega
            · intro kk28
              refine g_iload (n := 5) rfl rfl ?_
              refine g_iload_n (n := 3) rfl rfl ?_
              refine g_icmp_ge (by decide) (by decide) (by decide) (by decide) rfl ?_ ?_
              · intro kk29
                exfalso; omega
              · intro kk30
                refine g_aload_n (n := 0) rfl rfl ?_
                refine g_getf (v := vR 64) rfl (kl_61 _) rfl ?_
                refine g_aload_n (n := 0) rfl rfl ?_
                refine g_getf (v := vI (m.1 32)) rfl (kl_61 _) rfl ?_
                refine g_iload (n := 5) rfl rfl ?_
                refine g_iadd rfl ?_
                have h31 : 0 ≤ m.2.1 64 (m.1 32 + 1) ∧ m.2.1 64 (m.1 32 + 1) ≤ 255 := hm.2 64 (m.1 32 + 1) (by omega) (show (m.1 32 + 1) < (200 : Int) by omega)
                refine g_iald (f := m.2.1 64) rfl (kl_64 _) (by decide) (by omega) (by omega) ?_
                refine g_bipush (by decide) rfl ?_
                refine g_lload_n (n := 1) rfl rfl ?_
                refine g_iconst rfl ?_
                refine g_iload (n := 5) rfl rfl ?_
                refine g_imulE (z := 5) (by decide) rfl ?_
                refine g_lshr rfl ?_
                intro z32 h33 h34 h35
                have h36 : z32 = 12769 := h33.trans (by decide +kernel)
                subst h36
                refine g_ldc2 (x := 31) (by decide) rfl ?_
                refine g_land rfl ?_
                intro z37 h38 h39 h40
                have h41 : z37 = 1 := h38.trans (by decide +kernel)
                subst h41
                refine g_l2i rfl ?_
                refine g_iaddE (z := 97) (by decide) rfl ?_
                refine g_icmp_ne (by omega) (by omega) (by decide) (by decide) rfl ?_ ?_
                · intro kk42
                  refine g_iconst rfl ?_
                  refine g_istore (n := 4) (lo' := [(5, vI 1), (0, vR 61), (1, vL 408615), (3, vI 4)]) rfl rfl ?_
                  refine g_iincE (z := 2) (by decide) (n := 5) (lo' := [(4, vI 0), (0, vR 61), (1, vL 408615), (3, vI 4)]) rfl rfl rfl ?_
                  refine g_goto rfl ?_
                  refine g_iload (n := 4) rfl rfl ?_
                  refine g_if_eq (by decide) (by decide) rfl ?_ ?_
                  · intro kk43
                    refine g_iload (n := 4) rfl rfl ?_
                    refine g_zret rfl rfl (by omega) ?_
                    exact ⟨_, _, rfl, rfl, Or.inr ⟨rfl, by unfold wd6; omega⟩⟩
                  · intro kk44
                    exfalso; omega
                · intro kk45
                  refine g_iconst rfl ?_
                  refine g_goto rfl ?_
                  refine g_istore (n := 4) (lo' := [(5, vI 1), (0, vR 61), (1, vL 408615), (3, vI 4)]) rfl rfl ?_
                  refine g_iincE (z := 2) (by decide) (n := 5) (lo' := [(4, vI 1), (0, vR 61), (1, vL 408615), (3, vI 4)]) rfl rfl rfl ?_
                  refine g_goto rfl ?_
                  refine g_iload (n := 4) rfl rfl ?_
                  refine g_if_eq (by decide) (by decide) rfl ?_ ?_
                  · intro kk46
                    exfalso; omega
                  · intro kk47
                    refine g_iload (n := 5) rfl rfl ?_
                    refine g_iload_n (n := 3) rfl rfl ?_
                    refine g_icmp_ge (by decide) (by decide) (by decide) (by decide) rfl ?_ ?_
                    · intro kk48
                      exfalso; omega
                    · intro kk49
                      refine g_aload_n (n := 0) rfl rfl ?_
                      refine g_getf (v := vR 64) rfl (kl_61 _) rfl ?_
                      refine g_aload_n (n := 0) rfl rfl ?_
                      refine g_getf (v := vI (m.1 32)) rfl (kl_61 _) rfl ?_
                      refine g_iload (n := 5) rfl rfl ?_
                      refine g_iadd rfl ?_
                      have h50 : 0 ≤ m.2.1 64 (m.1 32 + 2) ∧ m.2.1 64 (m.1 32 + 2) ≤ 255 := hm.2 64 (m.1 32 + 2) (by omega) (show (m.1 32 + 2) < (200 : Int) by omega)
                      refine g_iald (f := m.2.1 64) rfl (kl_64 _) (by decide) (by omega) (by omega) ?_
                      refine g_bipush (by decide) rfl ?_
                      refine g_lload_n (n := 1) rfl rfl ?_
                      refine g_iconst rfl ?_
                      refine g_iload (n := 5) rfl rfl ?_
                      refine g_imulE (z := 10) (by decide) rfl ?_
                      refine g_lshr rfl ?_
                      intro z51 h52 h53 h54
                      have h55 : z51 = 399 := h52.trans (by decide +kernel)
                      subst h55
                      refine g_ldc2 (x := 31) (by decide) rfl ?_
                      refine g_land rfl ?_
                      intro z56 h57 h58 h59
                      have h60 : z56 = 15 := h57.trans (by decide +kernel)
                      subst h60
                      refine g_l2i rfl ?_
                      refine g_iaddE (z := 111) (by decide) rfl ?_
                      refine g_icmp_ne (by omega) (by omega) (by decide) (by decide) rfl ?_ ?_
                      · intro kk61
                        refine g_iconst rfl ?_
                        refine g_istore (n := 4) (lo' := [(5, vI 2), (0, vR 61), (1, vL 408615), (3, vI 4)]) rfl rfl ?_
                        refine g_iincE (z := 3) (by decide) (n := 5) (lo' := [(4, vI 0), (0, vR 61), (1, vL 408615), (3, vI 4)]) rfl rfl rfl ?_
                        refine g_goto rfl ?_
                        refine g_iload (n := 4) rfl rfl ?_
                        refine g_if_eq (by decide) (by decide) rfl ?_ ?_
                        · intro kk62
                          refine g_iload (n := 4) rfl rfl ?_
                          refine g_zret rfl rfl (by omega) ?_
                          exact ⟨_, _, rfl, rfl, Or.inr ⟨rfl, by unfold wd6; omega⟩⟩
                        · intro kk63
                          exfalso; omega
                      · intro kk64
                        refine g_iconst rfl ?_
                        refine g_goto rfl ?_
                        refine g_istore (n := 4) (lo' := [(5, vI 2), (0, vR 61), (1, vL 408615), (3, vI 4)]) rfl rfl ?_
                        refine g_iincE (z := 3) (by decide) (n := 5) (lo' := [(4, vI 1), (0, vR 61), (1, vL 408615), (3, vI 4)]) rfl rfl rfl ?_
                        refine g_goto rfl ?_
                        refine g_iload (n := 4) rfl rfl ?_
                        refine g_if_eq (by decide) (by decide) rfl ?_ ?_
                        · intro kk65
                          exfalso; omega
                        · intro kk66
                          refine g_iload (n := 5) rfl rfl ?_
                          refine g_iload_n (n := 3) rfl rfl ?_
                          refine g_icmp_ge (by decide) (by decide) (by decide) (by decide) rfl ?_ ?_
                          · intro kk67
                            exfalso; omega
                          · intro kk68
                            refine g_aload_n (n := 0) rfl rfl ?_
                            refine g_getf (v := vR 64) rfl (kl_61 _) rfl ?_
                            refine g_aload_n (n := 0) rfl rfl ?_
                            refine g_getf (v := vI (m.1 32)) rfl (kl_61 _) rfl ?_
                            refine g_iload (n := 5) rfl rfl ?_
                            refine g_iadd rfl ?_
                            have h69 : 0 ≤ m.2.1 64 (m.1 32 + 3) ∧ m.2.1 64 (m.1 32 + 3) ≤ 255 := hm.2 64 (m.1 32 + 3) (by omega) (show (m.1 32 + 3) < (200 : Int) by omega)
                            refine g_iald (f := m.2.1 64) rfl (kl_64 _) (by decide) (by omega) (by omega) ?_
                            refine g_bipush (by decide) rfl ?_
                            refine g_lload_n (n := 1) rfl rfl ?_
                            refine g_iconst rfl ?_
                            refine g_iload (n := 5) rfl rfl ?_
                            refine g_imulE (z := 15) (by decide) rfl ?_
                            refine g_lshr rfl ?_
                            intro z70 h71 h72 h73
                            have h74 : z70 = 12 := h71.trans (by decide +kernel)
                            subst h74
                            refine g_ldc2 (x := 31) (by decide) rfl ?_
                            refine g_land rfl ?_
                            intro z75 h76 h77 h78
                            have h79 : z75 = 12 := h76.trans (by decide +kernel)
                            subst h79
                            refine g_l2i rfl ?_
                            refine g_iaddE (z := 108) (by decide) rfl ?_
                            refine g_icmp_ne (by omega) (by omega) (by decide) (by decide) rfl ?_ ?_
                            · intro kk80
                              refine g_iconst rfl ?_
                              refine g_istore (n := 4) (lo' := [(5, vI 3), (0, vR 61), (1, vL 408615), (3, vI 4)]) rfl rfl ?_
                              refine g_iincE (z := 4) (by decide) (n := 5) (lo' := [(4, vI 0), (0, vR 61), (1, vL 408615), (3, vI 4)]) rfl rfl rfl ?_
                              refine g_goto rfl ?_
                              refine g_iload (n := 4) rfl rfl ?_
                              refine g_if_eq (by decide) (by decide) rfl ?_ ?_
                              · intro kk81
                                refine g_iload (n := 4) rfl rfl ?_
                                refine g_zret rfl rfl (by omega) ?_
                                exact ⟨_, _, rfl, rfl, Or.inr ⟨rfl, by unfold wd6; omega⟩⟩
                              · intro kk82
                                exfalso; omega
                            · intro kk83
                              refine g_iconst rfl ?_
                              refine g_goto rfl ?_
                              refine g_istore (n := 4) (lo' := [(5, vI 3), (0, vR 61), (1, vL 408615), (3, vI 4)]) rfl rfl ?_
                              refine g_iincE (z := 4) (by decide) (n := 5) (lo' := [(4, vI 1), (0, vR 61), (1, vL 408615), (3, vI 4)]) rfl rfl rfl ?_
                              refine g_goto rfl ?_
                              refine g_iload (n := 4) rfl rfl ?_
                              refine g_if_eq (by decide) (by decide) rfl ?_ ?_
                              · intro kk84
                                exfalso; omega
                              · intro kk85
                                refine g_iload (n := 5) rfl rfl ?_
                                refine g_iload_n (n := 3) rfl rfl ?_
                                refine g_icmp_ge (by decide) (by decide) (by decide) (by decide) rfl ?_ ?_
                                · intro kk86
                                  refine g_iload (n := 4) rfl rfl ?_
                                  refine g_zret rfl rfl (by omega) ?_
                                  exact ⟨_, _, rfl, rfl, Or.inl ⟨rfl, by unfold wd6; omega⟩⟩
                                · intro kk87
                                  exfalso; omega
theorem d_isWord_7 {V : cg_V} {d q : Nat} (hd : 0 ≤ d) (hq : 0 ≤ q) {m : kM} (hm : kI m) {x : Int} (h_x : 15208665387 ≤ x ∧ x ≤ 15208665387) : cg_S V d q mX10_isWord [vR 61, vL x, vI 7] (kl m) (R_I (fun z m' => (m = m') ∧ ((z = 1 ∧ wd7 (m.2.1 64) (m.1 32) (m.1 33)) ∨ (z = 0 ∧ ¬ wd7 (m.2.1 64) (m.1 32) (m.1 33))))) := by
  refine cg_of (List.mem_of_getElem? (show ae_MT[126]? = some mX10_isWord from rfl)) (Nat.le_of_ble_eq_true rfl) ?_
  show cg_G V mX10_isWord d q _ 0 [(0, vR 61), (1, vL x), (3, vI 7)] [] (kl m) 0 0
  have h1 : 0 ≤ m.1 32 ∧ m.1 32 ≤ 200 := hm.1 32
  have h2 : 0 ≤ m.1 33 ∧ m.1 33 ≤ 200 := hm.1 33
  have h3 : x = 15208665387 := by omega
  rcases h3 with rfl
  · refine g_aload_n (n := 0) rfl rfl ?_
    refine g_getf (v := vI (m.1 33)) rfl (kl_61 _) rfl ?_
    refine g_aload_n (n := 0) rfl rfl ?_
    refine g_getf (v := vI (m.1 32)) rfl (kl_61 _) rfl ?_
    refine g_isub rfl ?_
    refine g_iload_n (n := 3) rfl rfl ?_
    refine g_icmp_ne (by omega) (by omega) (by decide) (by decide) rfl ?_ ?_
    · intro kk4
      refine g_iconst rfl ?_
      refine g_istore (n := 4) (lo' := [(0, vR 61), (1, vL 15208665387), (3, vI 7)]) rfl rfl ?_
      refine g_iconst rfl ?_
      refine g_istore (n := 5) (lo' := [(4, vI 0), (0, vR 61), (1, vL 15208665387), (3, vI 7)]) rfl rfl ?_
      refine g_iload (n := 4) rfl rfl ?_
      refine g_if_eq (by decide) (by decide) rfl ?_ ?_
      · intro kk5
        refine g_iload (n := 4) rfl rfl ?_
        refine g_zret rfl rfl (by omega) ?_
        exact ⟨_, _, rfl, rfl, Or.inr ⟨rfl, by unfold wd7; omega⟩⟩
      · intro kk6
        exfalso; omega
    · intro kk7
      refine g_iconst rfl ?_
      refine g_goto rfl ?_
      refine g_istore (n := 4) (lo' := [(0, vR 61), (1, vL 15208665387), (3, vI 7)]) rfl rfl ?_
      refine g_iconst rfl ?_
      refine g_istore (n := 5) (lo' := [(4, vI 1), (0, vR 61), (1, vL 15208665387), (3, vI 7)]) rfl rfl ?_
      refine g_iload (n := 4) rfl rfl ?_
      refine g_if_eq (by decide) (by decide) rfl ?_ ?_
      · intro kk8
        exfalso; omega
      · intro kk9
        refine g_iload (n := 5) rfl rfl ?_
        refine g_iload_n (n := 3) rfl rfl ?_
        refine g_icmp_ge (by decide) (by decide) (by decide) (by decide) rfl ?_ ?_
        · intro kk10
          exfalso; omega
        · intro kk11
          refine g_aload_n (n := 0) rfl rfl ?_
          refine g_getf (v := vR 64) rfl (kl_61 _) rfl ?_
          refine g_aload_n (n := 0) rfl rfl ?_
          refine g_getf (v := vI (m.1 32)) rfl (kl_61 _) rfl ?_
          refine g_iload (n := 5) rfl rfl ?_
          refine g_iaddE (z := m.1 32) (by omega) rfl ?_
          have h12 : 0 ≤ m.2.1 64 (m.1 32) ∧ m.2.1 64 (m.1 32) ≤ 255 := hm.2 64 (m.1 32) (by omega) (show m.1 32 < (200 : Int) by omega)
          refine g_iald (f := m.2.1 64) rfl (kl_64 _) (by decide) (by omega) (by omega) ?_
          refine g_bipush (by decide) rfl ?_
          refine g_lload_n (n := 1) rfl rfl ?_
          refine g_iconst rfl ?_
          refine g_iload (n := 5) rfl rfl ?_
          refine g_imulE (z := 0) (by decide) rfl ?_
          refine g_lshr rfl ?_
          intro z13 h14 h15 h16
          have h17 : z13 = 15208665387 := h14.trans (by decide +kernel)
          subst h17
          refine g_ldc2 (x := 31) (by decide) rfl ?_
          refine g_land rfl ?_
          intro z18 h19 h20 h21
          have h22 : z18 = 11 := h19.trans (by decide +kernel)
          subst h22
          refine g_l2i rfl ?_
          refine g_iaddE (z := 107) (by decide) rfl ?_
          refine g_icmp_ne (by omega) (by omega) (by decide) (by decide) rfl ?_ ?_
          · intro kk23
            refine g_iconst rfl ?_
            refine g_istore (n := 4) (lo' := [(5, vI 0), (0, vR 61), (1, vL 15208665387), (3, vI 7)]) rfl rfl ?_
            refine g_iincE (z := 1) (by decide) (n := 5) (lo' := [(4, vI 0), (0, vR 61), (1, vL 15208665387), (3, vI 7)]) rfl rfl rfl ?_
            refine g_goto rfl ?_
            refine g_iload (n := 4) rfl rfl ?_
            refine g_if_eq (by decide) (by decide) rfl ?_ ?_
            · intro kk24
              refine g_iload (n := 4) rfl rfl ?_
              refine g_zret rfl rfl (by omega) ?_
              exact ⟨_, _, rfl, rfl, Or.inr ⟨rfl, by unfold wd7; omega⟩⟩
            · intro kk25
              exfalso; omega
          · intro kk26
            refine g_iconst rfl ?_
            refine g_goto rfl ?_
            refine g_istore (n := 4) (lo' := [(5, vI 0), (0, vR 61), (1, vL 15208665387), (3, vI 7)]) rfl rfl ?_
            refine g_iincE (z := 1) (by decide) (n := 5) (lo' := [(4, vI 1), (0, vR 61), (1, vL 15208665387), (3, vI 7)]) rfl rfl rfl ?_
            refine g_goto rfl ?_
            refine g_iload (n := 4) rfl rfl ?_
            refine g_if_eq (by decide) (by decide) rfl ?_ ?_
            · intro kk27
              exfalso; omega
            · intro kk28
              refine g_iload (n := 5) rfl rfl ?_
              refine g_iload_n (n := 3) rfl rfl ?_
              refine g_icmp_ge (by decide) (by decide) (by decide) (by decide) rfl ?_ ?_
              · intro kk29
                exfalso; omega
              · intro kk30
                refine g_aload_n (n := 0) rfl rfl ?_
                refine g_getf (v := vR 64) rfl (kl_61 _) rfl ?_
                refine g_aload_n (n := 0) rfl rfl ?_
                refine g_getf (v := vI (m.1 32)) rfl (kl_61 _) rfl ?_
                refine g_iload (n := 5) rfl rfl ?_
                refine g_iadd rfl ?_
                have h31 : 0 ≤ m.2.1 64 (m.1 32 + 1) ∧ m.2.1 64 (m.1 32 + 1) ≤ 255 := hm.2 64 (m.1 32 + 1) (by omega) (show (m.1 32 + 1) < (200 : Int) by omega)
                refine g_iald (f := m.2.1 64) rfl (kl_64 _) (by decide) (by omega) (by omega) ?_
                refine g_bipush (by decide) rfl ?_
                refine g_lload_n (n := 1) rfl rfl ?_
                refine g_iconst rfl ?_
                refine g_iload (n := 5) rfl rfl ?_
                refine g_imulE (z := 5) (by decide) rfl ?_
                refine g_lshr rfl ?_
                intro z32 h33 h34 h35
                have h36 : z32 = 475270793 := h33.trans (by decide +kernel)
                subst h36
                refine g_ldc2 (x := 31) (by decide) rfl ?_
                refine g_land rfl ?_
                intro z37 h38 h39 h40
                have h41 : z37 = 9 := h38.trans (by decide +kernel)
                subst h41
                refine g_l2i rfl ?_
                refine g_iaddE (z := 105) (by decide) rfl ?_
                refine g_icmp_ne (by omega) (by omega) (by decide) (by decide) rfl ?_ ?_
                · intro kk42
                  refine g_iconst rfl ?_
                  refine g_istore (n := 4) (lo' := [(5, vI 1), (0, vR 61), (1, vL 15208665387), (3, vI 7)]) rfl rfl ?_
                  refine g_iincE (z := 2) (by decide) (n := 5) (lo' := [(4, vI 0), (0, vR 61), (1, vL 15208665387), (3, vI 7)]) rfl rfl rfl ?_
                  refine g_goto rfl ?_
                  refine g_iload (n := 4) rfl rfl ?_
                  refine g_if_eq (by decide) (by decide) rfl ?_ ?_
                  · intro kk43
                    refine g_iload (n := 4) rfl rfl ?_
                    refine g_zret rfl rfl (by omega) ?_
                    exact ⟨_, _, rfl, rfl, Or.inr ⟨rfl, by unfold wd7; omega⟩⟩
                  · intro kk44
                    exfalso; omega
                · intro kk45
                  refine g_iconst rfl ?_
                  refine g_goto rfl ?_
                  refine g_istore (n := 4) (lo' := [(5, vI 1), (0, vR 61), (1, vL 15208665387), (3, vI 7)]) rfl rfl ?_
                  refine g_iincE (z := 2) (by decide) (n := 5) (lo' := [(4, vI 1), (0, vR 61), (1, vL 15208665387), (3, vI 7)]) rfl rfl rfl ?_
                  refine g_goto rfl ?_
                  refine g_iload (n := 4) rfl rfl ?_
                  refine g_if_eq (by decide) (by decide) rfl ?_ ?_
                  · intro kk46
                    exfalso; omega
                  · intro kk47
                    refine g_iload (n := 5) rfl rfl ?_
                    refine g_iload_n (n := 3) rfl rfl ?_
                    refine g_icmp_ge (by decide) (by decide) (by decide) (by decide) rfl ?_ ?_
                    · intro kk48
                      exfalso; omega
                    · intro kk49
                      refine g_aload_n (n := 0) rfl rfl ?_
                      refine g_getf (v := vR 64) rfl (kl_61 _) rfl ?_
                      refine g_aload_n (n := 0) rfl rfl ?_
                      refine g_getf (v := vI (m.1 32)) rfl (kl_61 _) rfl ?_
                      refine g_iload (n := 5) rfl rfl ?_
                      refine g_iadd rfl ?_
                      have h50 : 0 ≤ m.2.1 64 (m.1 32 + 2) ∧ m.2.1 64 (m.1 32 + 2) ≤ 255 := hm.2 64 (m.1 32 + 2) (by omega) (show (m.1 32 + 2) < (200 : Int) by omega)
                      refine g_iald (f := m.2.1 64) rfl (kl_64 _) (by decide) (by omega) (by omega) ?_
                      refine g_bipush (by decide) rfl ?_
                      refine g_lload_n (n := 1) rfl rfl ?_
                      refine g_iconst rfl ?_
                      refine g_iload (n := 5) rfl rfl ?_
                      refine g_imulE (z := 10) (by decide) rfl ?_
                      refine g_lshr rfl ?_
                      intro z51 h52 h53 h54
                      have h55 : z51 = 14852212 := h52.trans (by decide +kernel)
                      subst h55
                      refine g_ldc2 (x := 31) (by decide) rfl ?_
                      refine g_land rfl ?_
                      intro z56 h57 h58 h59
                      have h60 : z56 = 20 := h57.trans (by decide +kernel)
                      subst h60
                      refine g_l2i rfl ?_
                      refine g_iaddE (z := 116) (by decide) rfl ?_
                      refine g_icmp_ne (by omega) (by omega) (by decide) (by decide) rfl ?_ ?_
                      · intro kk61
                        refine g_iconst rfl ?_
                        refine g_istore (n := 4) (lo' := [(5, vI 2), (0, vR 61), (1, vL 15208665387), (3, vI 7)]) rfl rfl ?_
                        refine g_iincE (z := 3) (by decide) (n := 5) (lo' := [(4, vI 0), (0, vR 61), (1, vL 15208665387), (3, vI 7)]) rfl rfl rfl ?_
                        refine g_goto rfl ?_
                        refine g_iload (n := 4) rfl rfl ?_
                        refine g_if_eq (by decide) (by decide) rfl ?_ ?_
                        · intro kk62
                          refine g_iload (n := 4) rfl rfl ?_
                          refine g_zret rfl rfl (by omega) ?_
                          exact ⟨_, _, rfl, rfl, Or.inr ⟨rfl, by unfold wd7; omega⟩⟩
                        · intro kk63
                          exfalso; omega
                      · intro kk64
                        refine g_iconst rfl ?_
                        refine g_goto rfl ?_
                        refine g_istore (n := 4) (lo' := [(5, vI 2), (0, vR 61), (1, vL 15208665387), (3, vI 7)]) rfl rfl ?_
                        refine g_iincE (z := 3) (by decide) (n := 5) (lo' := [(4, vI 1), (0, vR 61), (1, vL 15208665387), (3, vI 7)]) rfl rfl rfl ?_
                        refine g_goto rfl ?_
                        refine g_iload (n := 4) rfl rfl ?_
                        refine g_if_eq (by decide) (by decide) rfl ?_ ?_
                        · intro kk65
                          exfalso; omega
                        · intro kk66
                          refine g_iload (n := 5) rfl rfl ?_
                          refine g_iload_n (n := 3) rfl rfl ?_
                          refine g_icmp_ge (by decide) (by decide) (by decide) (by decide) rfl ?_ ?_
                          · intro kk67
                            exfalso; omega
                          · intro kk68
                            refine g_aload_n (n := 0) rfl rfl ?_
                            refine g_getf (v := vR 64) rfl (kl_61 _) rfl ?_
                            refine g_aload_n (n := 0) rfl rfl ?_
                            refine g_getf (v := vI (m.1 32)) rfl (kl_61 _) rfl ?_
                            refine g_iload (n := 5) rfl rfl ?_
                            refine g_iadd rfl ?_
                            have h69 : 0 ≤ m.2.1 64 (m.1 32 + 3) ∧ m.2.1 64 (m.1 32 + 3) ≤ 255 := hm.2 64 (m.1 32 + 3) (by omega) (show (m.1 32 + 3) < (200 : Int) by omega)
                            refine g_iald (f := m.2.1 64) rfl (kl_64 _) (by decide) (by omega) (by omega) ?_
                            refine g_bipush (by decide) rfl ?_
                            refine g_lload_n (n := 1) rfl rfl ?_
                            refine g_iconst rfl ?_
                            refine g_iload (n := 5) rfl rfl ?_
                            refine g_imulE (z := 15) (by decide) rfl ?_
                            refine g_lshr rfl ?_
                            intro z70 h71 h72 h73
                            have h74 : z70 = 464131 := h71.trans (by decide +kernel)
                            subst h74
                            refine g_ldc2 (x := 31) (by decide) rfl ?_
                            refine g_land rfl ?_
                            intro z75 h76 h77 h78
                            have h79 : z75 = 3 := h76.trans (by decide +kernel)
                            subst h79
                            refine g_l2i rfl ?_
                            refine g_iaddE (z := 99) (by decide) rfl ?_
                            refine g_icmp_ne (by omega) (by omega) (by decide) (by decide) rfl ?_ ?_
                            · intro kk80
                              refine g_iconst rfl ?_
                              refine g_istore (n := 4) (lo' := [(5, vI 3), (0, vR 61), (1, vL 15208665387), (3, vI 7)]) rfl rfl ?_
                              refine g_iincE (z := 4) (by decide) (n := 5) (lo' := [(4, vI 0), (0, vR 61), (1, vL 15208665387), (3, vI 7)]) rfl rfl rfl ?_
                              refine g_goto rfl ?_
                              refine g_iload (n := 4) rfl rfl ?_
                              refine g_if_eq (by decide) (by decide) rfl ?_ ?_
                              · intro kk81
                                refine g_iload (n := 4) rfl rfl ?_
                                refine g_zret rfl rfl (by omega) ?_
                                exact ⟨_, _, rfl, rfl, Or.inr ⟨rfl, by unfold wd7; omega⟩⟩
                              · intro kk82
                                exfalso; omega
                            · intro kk83
                              refine g_iconst rfl ?_
                              refine g_goto rfl ?_
                              refine g_istore (n := 4) (lo' := [(5, vI 3), (0, vR 61), (1, vL 15208665387), (3, vI 7)]) rfl rfl ?_
                              refine g_iincE (z := 4) (by decide) (n := 5) (lo' := [(4, vI 1), (0, vR 61), (1, vL 15208665387), (3, vI 7)]) rfl rfl rfl ?_
                              refine g_goto rfl ?_
                              refine g_iload (n := 4) rfl rfl ?_
                              refine g_if_eq (by decide) (by decide) rfl ?_ ?_
                              · intro kk84
                                exfalso; omega
                              · intro kk85
                                refine g_iload (n := 5) rfl rfl ?_
                                refine g_iload_n (n := 3) rfl rfl ?_
                                refine g_icmp_ge (by decide) (by decide) (by decide) (by decide) rfl ?_ ?_
                                · intro kk86
                                  exfalso; omega
                                · intro kk87
                                  refine g_aload_n (n := 0) rfl rfl ?_
                                  refine g_getf (v := vR 64) rfl (kl_61 _) rfl ?_
                                  refine g_aload_n (n := 0) rfl rfl ?_
                                  refine g_getf (v := vI (m.1 32)) rfl (kl_61 _) rfl ?_
                                  refine g_iload (n := 5) rfl rfl ?_
                                  refine g_iadd rfl ?_
                                  have h88 : 0 ≤ m.2.1 64 (m.1 32 + 4) ∧ m.2.1 64 (m.1 32 + 4) ≤ 255 := hm.2 64 (m.1 32 + 4) (by omega) (show (m.1 32 + 4) < (200 : Int) by omega)
                                  refine g_iald (f := m.2.1 64) rfl (kl_64 _) (by decide) (by omega) (by omega) ?_
                                  refine g_bipush (by decide) rfl ?_
                                  refine g_lload_n (n := 1) rfl rfl ?_
                                  refine g_iconst rfl ?_
                                  refine g_iload (n := 5) rfl rfl ?_
                                  refine g_imulE (z := 20) (by decide) rfl ?_
                                  refine g_lshr rfl ?_
                                  intro z89 h90 h91 h92
                                  have h93 : z89 = 14504 := h90.trans (by decide +kernel)
                                  subst h93
                                  refine g_ldc2 (x := 31) (by decide) rfl ?_
                                  refine g_land rfl ?_
                                  intro z94 h95 h96 h97
                                  have h98 : z94 = 8 := h95.trans (by decide +kernel)
                                  subst h98
                                  refine g_l2i rfl ?_
                                  refine g_iaddE (z := 104) (by decide) rfl ?_
                                  refine g_icmp_ne (by omega) (by omega) (by decide) (by decide) rfl ?_ ?_
                                  · intro kk99
                                    refine g_iconst rfl ?_
                                    refine g_istore (n := 4) (lo' := [(5, vI 4), (0, vR 61), (1, vL 15208665387), (3, vI 7)]) rfl rfl ?_
                                    refine g_iincE (z := 5) (by decide) (n := 5) (lo' := [(4, vI 0), (0, vR 61), (1, vL 15208665387), (3, vI 7)]) rfl rfl rfl ?_
                                    refine g_goto rfl ?_
                                    refine g_iload (n := 4) rfl rfl ?_
                                    refine g_if_eq (by decide) (by decide) rfl ?_ ?_
                                    · intro kk100
                                      refine g_iload (n := 4) rfl rfl ?_
                                      refine g_zret rfl rfl (by omega) ?_
                                      exact ⟨_, _, rfl, rfl, Or.inr ⟨rfl, by unfold wd7; omega⟩⟩
                                    · intro kk101
                                      exfalso; omega
                                  · intro kk102
                                    refine g_iconst rfl ?_
                                    refine g_goto rfl ?_
                                    refine g_istore (n := 4) (lo' := [(5, vI 4), (0, vR 61), (1, vL 15208665387), (3, vI 7)]) rfl rfl ?_
                                    refine g_iincE (z := 5) (by decide) (n := 5) (lo' := [(4, vI 1), (0, vR 61), (1, vL 15208665387), (3, vI 7)]) rfl rfl rfl ?_
                                    refine g_goto rfl ?_
                                    refine g_iload (n := 4) rfl rfl ?_
                                    refine g_if_eq (by decide) (by decide) rfl ?_ ?_
                                    · intro kk103
                                      exfalso; omega
                                    · intro kk104
                                      refine g_iload (n := 5) rfl rfl ?_
                                      refine g_iload_n (n := 3) rfl rfl ?_
                                      refine g_icmp_ge (by decide) (by decide) (by decide) (by decide) rfl ?_ ?_
                                      · intro kk105
                                        exfalso; omega
                                      · intro kk106
                                        refine g_aload_n (n := 0) rfl rfl ?_
                                        refine g_getf (v := vR 64) rfl (kl_61 _) rfl ?_
                                        refine g_aload_n (n := 0) rfl rfl ?_
                                        refine g_getf (v := vI (m.1 32)) rfl (kl_61 _) rfl ?_
                                        refine g_iload (n := 5) rfl rfl ?_
                                        refine g_iadd rfl ?_
                                        have h107 : 0 ≤ m.2.1 64 (m.1 32 + 5) ∧ m.2.1 64 (m.1 32 + 5) ≤ 255 := hm.2 64 (m.1 32 + 5) (by omega) (show (m.1 32 + 5) < (200 : Int) by omega)
                                        refine g_iald (f := m.2.1 64) rfl (kl_64 _) (by decide) (by omega) (by omega) ?_
                                        refine g_bipush (by decide) rfl ?_
                                        refine g_lload_n (n := 1) rfl rfl ?_
                                        refine g_iconst rfl ?_
                                        refine g_iload (n := 5) rfl rfl ?_
                                        refine g_imulE (z := 25) (by decide) rfl ?_
                                        refine g_lshr rfl ?_
                                        intro z108 h109 h110 h111
                                        have h112 : z108 = 453 := h109.trans (by decide +kernel)
                                        subst h112
                                        refine g_ldc2 (x := 31) (by decide) rfl ?_
                                        refine g_land rfl ?_
                                        intro z113 h114 h115 h116
                                        have h117 : z113 = 5 := h114.trans (by decide +kernel)
                                        subst h117
                                        refine g_l2i rfl ?_
                                        refine g_iaddE (z := 101) (by decide) rfl ?_
                                        refine g_icmp_ne (by omega) (by omega) (by decide) (by decide) rfl ?_ ?_
                                        · intro kk118
                                          refine g_iconst rfl ?_
                                          refine g_istore (n := 4) (lo' := [(5, vI 5), (0, vR 61), (1, vL 15208665387), (3, vI 7)]) rfl rfl ?_
                                          refine g_iincE (z := 6) (by decide) (n := 5) (lo' := [(4, vI 0), (0, vR 61), (1, vL 15208665387), (3, vI 7)]) rfl rfl rfl ?_
                                          refine g_goto rfl ?_
                                          refine g_iload (n := 4) rfl rfl ?_
                                          refine g_if_eq (by decide) (by decide) rfl ?_ ?_
                                          · intro kk119
                                            refine g_iload (n := 4) rfl rfl ?_
                                            refine g_zret rfl rfl (by omega) ?_
                                            exact ⟨_, _, rfl, rfl, Or.inr ⟨rfl, by unfold wd7; omega⟩⟩
                                          · intro kk120
                                            exfalso; omega
                                        · intro kk121
                                          refine g_iconst rfl ?_
                                          refine g_goto rfl ?_
                                          refine g_istore (n := 4) (lo' := [(5, vI 5), (0, vR 61), (1, vL 15208665387), (3, vI 7)]) rfl rfl ?_
                                          refine g_iincE (z := 6) (by decide) (n := 5) (lo' := [(4, vI 1), (0, vR 61), (1, vL 15208665387), (3, vI 7)]) rfl rfl rfl ?_
                                          refine g_goto rfl ?_
                                          refine g_iload (n := 4) rfl rfl ?_
                                          refine g_if_eq (by decide) (by decide) rfl ?_ ?_
                                          · intro kk122
                                            exfalso; omega
                                          · intro kk123
                                            refine g_iload (n := 5) rfl rfl ?_
                                            refine g_iload_n (n := 3) rfl rfl ?_
                                            refine g_icmp_ge (by decide) (by decide) (by decide) (by decide) rfl ?_ ?_
                                            · intro kk124
                                              exfalso; omega
                                            · intro kk125
                                              refine g_aload_n (n := 0) rfl rfl ?_
                                              refine g_getf (v := vR 64) rfl (kl_61 _) rfl ?_
                                              refine g_aload_n (n := 0) rfl rfl ?_
                                              refine g_getf (v := vI (m.1 32)) rfl (kl_61 _) rfl ?_
                                              refine g_iload (n := 5) rfl rfl ?_
                                              refine g_iadd rfl ?_
                                              have h126 : 0 ≤ m.2.1 64 (m.1 32 + 6) ∧ m.2.1 64 (m.1 32 + 6) ≤ 255 := hm.2 64 (m.1 32 + 6) (by omega) (show (m.1 32 + 6) < (200 : Int) by omega)
                                              refine g_iald (f := m.2.1 64) rfl (kl_64 _) (by decide) (by omega) (by omega) ?_
                                              refine g_bipush (by decide) rfl ?_
                                              refine g_lload_n (n := 1) rfl rfl ?_
                                              refine g_iconst rfl ?_
                                              refine g_iload (n := 5) rfl rfl ?_
                                              refine g_imulE (z := 30) (by decide) rfl ?_
                                              refine g_lshr rfl ?_
                                              intro z127 h128 h129 h130
                                              have h131 : z127 = 14 := h128.trans (by decide +kernel)
                                              subst h131
                                              refine g_ldc2 (x := 31) (by decide) rfl ?_
                                              refine g_land rfl ?_
                                              intro z132 h133 h134 h135
                                              have h136 : z132 = 14 := h133.trans (by decide +kernel)
                                              subst h136
                                              refine g_l2i rfl ?_
                                              refine g_iaddE (z := 110) (by decide) rfl ?_
                                              refine g_icmp_ne (by omega) (by omega) (by decide) (by decide) rfl ?_ ?_
                                              · intro kk137
                                                refine g_iconst rfl ?_
                                                refine g_istore (n := 4) (lo' := [(5, vI 6), (0, vR 61), (1, vL 15208665387), (3, vI 7)]) rfl rfl ?_
                                                refine g_iincE (z := 7) (by decide) (n := 5) (lo' := [(4, vI 0), (0, vR 61), (1, vL 15208665387), (3, vI 7)]) rfl rfl rfl ?_
                                                refine g_goto rfl ?_
                                                refine g_iload (n := 4) rfl rfl ?_
                                                refine g_if_eq (by decide) (by decide) rfl ?_ ?_
                                                · intro kk138
                                                  refine g_iload (n := 4) rfl rfl ?_
                                                  refine g_zret rfl rfl (by omega) ?_
                                                  exact ⟨_, _, rfl, rfl, Or.inr ⟨rfl, by unfold wd7; omega⟩⟩
                                                · intro kk139
                                                  exfalso; omega
                                              · intro kk140
                                                refine g_iconst rfl ?_
                                                refine g_goto rfl ?_
                                                refine g_istore (n := 4) (lo' := [(5, vI 6), (0, vR 61), (1, vL 15208665387), (3, vI 7)]) rfl rfl ?_
                                                refine g_iincE (z := 7) (by decide) (n := 5) (lo' := [(4, vI 1), (0, vR 61), (1, vL 15208665387), (3, vI 7)]) rfl rfl rfl ?_
                                                refine g_goto rfl ?_
                                                refine g_iload (n := 4) rfl rfl ?_
                                                refine g_if_eq (by decide) (by decide) rfl ?_ ?_
                                                · intro kk141
                                                  exfalso; omega
                                                · intro kk142
                                                  refine g_iload (n := 5) rfl rfl ?_
                                                  refine g_iload_n (n := 3) rfl rfl ?_
                                                  refine g_icmp_ge (by decide) (by decide) (by decide) (by decide) rfl ?_ ?_
                                                  · intro kk143
                                                    refine g_iload (n := 4) rfl rfl ?_
                                                    refine g_zret rfl rfl (by omega) ?_
                                                    exact ⟨_, _, rfl, rfl, Or.inl ⟨rfl, by unfold wd7; omega⟩⟩
                                                  · intro kk144
                                                    exfalso; omega
theorem d_isWord_8 {V : cg_V} {d q : Nat} (hd : 0 ≤ d) (hq : 0 ≤ q) {m : kM} (hm : kI m) {x : Int} (h_x : 857979560 ≤ x ∧ x ≤ 857979560) : cg_S V d q mX10_isWord [vR 61, vL x, vI 6] (kl m) (R_I (fun z m' => (m = m') ∧ ((z = 1 ∧ wd8 (m.2.1 64) (m.1 32) (m.1 33)) ∨ (z = 0 ∧ ¬ wd8 (m.2.1 64) (m.1 32) (m.1 33))))) := by
  refine cg_of (List.mem_of_getElem? (show ae_MT[126]? = some mX10_isWord from rfl)) (Nat.le_of_ble_eq_true rfl) ?_
  show cg_G V mX10_isWord d q _ 0 [(0, vR 61), (1, vL x), (3, vI 6)] [] (kl m) 0 0
  have h1 : 0 ≤ m.1 32 ∧ m.1 32 ≤ 200 := hm.1 32
  have h2 : 0 ≤ m.1 33 ∧ m.1 33 ≤ 200 := hm.1 33
  have h3 : x = 857979560 := by omega
  rcases h3 with rfl
  · refine g_aload_n (n := 0) rfl rfl ?_
    refine g_getf (v := vI (m.1 33)) rfl (kl_61 _) rfl ?_
    refine g_aload_n (n := 0) rfl rfl ?_
    refine g_getf (v := vI (m.1 32)) rfl (kl_61 _) rfl ?_
    refine g_isub rfl ?_
    refine g_iload_n (n := 3) rfl rfl ?_
    refine g_icmp_ne (by omega) (by omega) (by decide) (by decide) rfl ?_ ?_
    · intro kk4
      refine g_iconst rfl ?_
      refine g_istore (n := 4) (lo' := [(0, vR 61), (1, vL 857979560), (3, vI 6)]) rfl rfl ?_
      refine g_iconst rfl ?_
      refine g_istore (n := 5) (lo' := [(4, vI 0), (0, vR 61), (1, vL 857979560), (3, vI 6)]) rfl rfl ?_
      refine g_iload (n := 4) rfl rfl ?_
      refine g_if_eq (by decide) (by decide) rfl ?_ ?_
      · intro kk5
        refine g_iload (n := 4) rfl rfl ?_
        refine g_zret rfl rfl (by omega) ?_
        exact ⟨_, _, rfl, rfl, Or.inr ⟨rfl, by unfold wd8; omega⟩⟩
      · intro kk6
        exfalso; omega
    · intro kk7
      refine g_iconst rfl ?_
      refine g_goto rfl ?_
      refine g_istore (n := 4) (lo' := [(0, vR 61), (1, vL 857979560), (3, vI 6)]) rfl rfl ?_
      refine g_iconst rfl ?_
      refine g_istore (n := 5) (lo' := [(4, vI 1), (0, vR 61), (1, vL 857979560), (3, vI 6)]) rfl rfl ?_
      refine g_iload (n := 4) rfl rfl ?_
      refine g_if_eq (by decide) (by decide) rfl ?_ ?_
      · intro kk8
        exfalso; omega
      · intro kk9
        refine g_iload (n := 5) rfl rfl ?_
        refine g_iload_n (n := 3) rfl rfl ?_
        refine g_icmp_ge (by decide) (by decide) (by decide) (by decide) rfl ?_ ?_
        · intro kk10
          exfalso; omega
        · intro kk11
          refine g_aload_n (n := 0) rfl rfl ?_
          refine g_getf (v := vR 64) rfl (kl_61 _) rfl ?_
          refine g_aload_n (n := 0) rfl rfl ?_
          refine g_getf (v := vI (m.1 32)) rfl (kl_61 _) rfl ?_
          refine g_iload (n := 5) rfl rfl ?_
          refine g_iaddE (z := m.1 32) (by omega) rfl ?_
          have h12 : 0 ≤ m.2.1 64 (m.1 32) ∧ m.2.1 64 (m.1 32) ≤ 255 := hm.2 64 (m.1 32) (by omega) (show m.1 32 < (200 : Int) by omega)
          refine g_iald (f := m.2.1 64) rfl (kl_64 _) (by decide) (by omega) (by omega) ?_
          refine g_bipush (by decide) rfl ?_
          refine g_lload_n (n := 1) rfl rfl ?_
          refine g_iconst rfl ?_
          refine g_iload (n := 5) rfl rfl ?_
          refine g_imulE (z := 0) (by decide) rfl ?_
          refine g_lshr rfl ?_
          intro z13 h14 h15 h16
          have h17 : z13 = 857979560 := h14.trans (by decide +kernel)
          subst h17
          refine g_ldc2 (x := 31) (by decide) rfl ?_
          refine g_land rfl ?_
          intro z18 h19 h20 h21
          have h22 : z18 = 8 := h19.trans (by decide +kernel)
          subst h22
          refine g_l2i rfl ?_
          refine g_iaddE (z := 104) (by decide) rfl ?_
          refine g_icmp_ne (by omega) (by omega) (by decide) (by decide) rfl ?_ ?_
          · intro kk23
            refine g_iconst rfl ?_
            refine g_istore (n := 4) (lo' := [(5, vI 0), (0, vR 61), (1, vL 857979560), (3, vI 6)]) rfl rfl ?_
            refine g_iincE (z := 1) (by decide) (n := 5) (lo' := [(4, vI 0), (0, vR 61), (1, vL 857979560), (3, vI 6)]) rfl rfl rfl ?_
            refine g_goto rfl ?_
            refine g_iload (n := 4) rfl rfl ?_
            refine g_if_eq (by decide) (by decide) rfl ?_ ?_
            · intro kk24
              refine g_iload (n := 4) rfl rfl ?_
              refine g_zret rfl rfl (by omega) ?_
              exact ⟨_, _, rfl, rfl, Or.inr ⟨rfl, by unfold wd8; omega⟩⟩
            · intro kk25
              exfalso; omega
          · intro kk26
            refine g_iconst rfl ?_
            refine g_goto rfl ?_
            refine g_istore (n := 4) (lo' := [(5, vI 0), (0, vR 61), (1, vL 857979560), (3, vI 6)]) rfl rfl ?_
            refine g_iincE (z := 1) (by decide) (n := 5) (lo' := [(4, vI 1), (0, vR 61), (1, vL 857979560), (3, vI 6)]) rfl rfl rfl ?_
            refine g_goto rfl ?_
            refine g_iload (n := 4) rfl rfl ?_
            refine g_if_eq (by decide) (by decide) rfl ?_ ?_
            · intro kk27
              exfalso; omega
            · intro kk28
              refine g_iload (n := 5) rfl rfl ?_
              refine g_iload_n (n := 3) rfl rfl ?_
              refine g_icmp_ge (by decide) (by decide) (by decide) (by decide) rfl ?_ ?_
              · intro kk29
                exfalso; omega
              · intro kk30
                refine g_aload_n (n := 0) rfl rfl ?_
                refine g_getf (v := vR 64) rfl (kl_61 _) rfl ?_
                refine g_aload_n (n := 0) rfl rfl ?_
                refine g_getf (v := vI (m.1 32)) rfl (kl_61 _) rfl ?_
                refine g_iload (n := 5) rfl rfl ?_
                refine g_iadd rfl ?_
                have h31 : 0 ≤ m.2.1 64 (m.1 32 + 1) ∧ m.2.1 64 (m.1 32 + 1) ≤ 255 := hm.2 64 (m.1 32 + 1) (by omega) (show (m.1 32 + 1) < (200 : Int) by omega)
                refine g_iald (f := m.2.1 64) rfl (kl_64 _) (by decide) (by omega) (by omega) ?_
                refine g_bipush (by decide) rfl ?_
                refine g_lload_n (n := 1) rfl rfl ?_
                refine g_iconst rfl ?_
                refine g_iload (n := 5) rfl rfl ?_
                refine g_imulE (z := 5) (by decide) rfl ?_
                refine g_lshr rfl ?_
                intro z32 h33 h34 h35
                have h36 : z32 = 26811861 := h33.trans (by decide +kernel)
                subst h36
                refine g_ldc2 (x := 31) (by decide) rfl ?_
                refine g_land rfl ?_
                intro z37 h38 h39 h40
                have h41 : z37 = 21 := h38.trans (by decide +kernel)
                subst h41
                refine g_l2i rfl ?_
                refine g_iaddE (z := 117) (by decide) rfl ?_
                refine g_icmp_ne (by omega) (by omega) (by decide) (by decide) rfl ?_ ?_
                · intro kk42
                  refine g_iconst rfl ?_
                  refine g_istore (n := 4) (lo' := [(5, vI 1), (0, vR 61), (1, vL 857979560), (3, vI 6)]) rfl rfl ?_
                  refine g_iincE (z := 2) (by decide) (n := 5) (lo' := [(4, vI 0), (0, vR 61), (1, vL 857979560), (3, vI 6)]) rfl rfl rfl ?_
                  refine g_goto rfl ?_
                  refine g_iload (n := 4) rfl rfl ?_
                  refine g_if_eq (by decide) (by decide) rfl ?_ ?_
                  · intro kk43
                    refine g_iload (n := 4) rfl rfl ?_
                    refine g_zret rfl rfl (by omega) ?_
                    exact ⟨_, _, rfl, rfl, Or.inr ⟨rfl, by unfold wd8; omega⟩⟩
                  · intro kk44
                    exfalso; omega
                · intro kk45
                  refine g_iconst rfl ?_
                  refine g_goto rfl ?_
                  refine g_istore (n := 4) (lo' := [(5, vI 1), (0, vR 61), (1, vL 857979560), (3, vI 6)]) rfl rfl ?_
                  refine g_iincE (z := 2) (by decide) (n := 5) (lo' := [(4, vI 1), (0, vR 61), (1, vL 857979560), (3, vI 6)]) rfl rfl rfl ?_
                  refine g_goto rfl ?_
                  refine g_iload (n := 4) rfl rfl ?_
                  refine g_if_eq (by decide) (by decide) rfl ?_ ?_
                  · intro kk46
                    exfalso; omega
                  · intro kk47
                    refine g_iload (n := 5) rfl rfl ?_
                    refine g_iload_n (n := 3) rfl rfl ?_
                    refine g_icmp_ge (by decide) (by decide) (by decide) (by decide) rfl ?_ ?_
                    · intro kk48
                      exfalso; omega
                    · intro kk49
                      refine g_aload_n (n := 0) rfl rfl ?_
                      refine g_getf (v := vR 64) rfl (kl_61 _) rfl ?_
                      refine g_aload_n (n := 0) rfl rfl ?_
                      refine g_getf (v := vI (m.1 32)) rfl (kl_61 _) rfl ?_
                      refine g_iload (n := 5) rfl rfl ?_
                      refine g_iadd rfl ?_
                      have h50 : 0 ≤ m.2.1 64 (m.1 32 + 2) ∧ m.2.1 64 (m.1 32 + 2) ≤ 255 := hm.2 64 (m.1 32 + 2) (by omega) (show (m.1 32 + 2) < (200 : Int) by omega)
                      refine g_iald (f := m.2.1 64) rfl (kl_64 _) (by decide) (by omega) (by omega) ?_
                      refine g_bipush (by decide) rfl ?_
                      refine g_lload_n (n := 1) rfl rfl ?_
                      refine g_iconst rfl ?_
                      refine g_iload (n := 5) rfl rfl ?_
                      refine g_imulE (z := 10) (by decide) rfl ?_
                      refine g_lshr rfl ?_
                      intro z51 h52 h53 h54
                      have h55 : z51 = 837870 := h52.trans (by decide +kernel)
                      subst h55
                      refine g_ldc2 (x := 31) (by decide) rfl ?_
                      refine g_land rfl ?_
                      intro z56 h57 h58 h59
                      have h60 : z56 = 14 := h57.trans (by decide +kernel)
                      subst h60
                      refine g_l2i rfl ?_
                      refine g_iaddE (z := 110) (by decide) rfl ?_
                      refine g_icmp_ne (by omega) (by omega) (by decide) (by decide) rfl ?_ ?_
                      · intro kk61
                        refine g_iconst rfl ?_
                        refine g_istore (n := 4) (lo' := [(5, vI 2), (0, vR 61), (1, vL 857979560), (3, vI 6)]) rfl rfl ?_
                        refine g_iincE (z := 3) (by decide) (n := 5) (lo' := [(4, vI 0), (0, vR 61), (1, vL 857979560), (3, vI 6)]) rfl rfl rfl ?_
                        refine g_goto rfl ?_
                        refine g_iload (n := 4) rfl rfl ?_
                        refine g_if_eq (by decide) (by decide) rfl ?_ ?_
                        · intro kk62
                          refine g_iload (n := 4) rfl rfl ?_
                          refine g_zret rfl rfl (by omega) ?_
                          exact ⟨_, _, rfl, rfl, Or.inr ⟨rfl, by unfold wd8; omega⟩⟩
                        · intro kk63
                          exfalso; omega
                      · intro kk64
                        refine g_iconst rfl ?_
                        refine g_goto rfl ?_
                        refine g_istore (n := 4) (lo' := [(5, vI 2), (0, vR 61), (1, vL 857979560), (3, vI 6)]) rfl rfl ?_
                        refine g_iincE (z := 3) (by decide) (n := 5) (lo' := [(4, vI 1), (0, vR 61), (1, vL 857979560), (3, vI 6)]) rfl rfl rfl ?_
                        refine g_goto rfl ?_
                        refine g_iload (n := 4) rfl rfl ?_
                        refine g_if_eq (by decide) (by decide) rfl ?_ ?_
                        · intro kk65
                          exfalso; omega
                        · intro kk66
                          refine g_iload (n := 5) rfl rfl ?_
                          refine g_iload_n (n := 3) rfl rfl ?_
                          refine g_icmp_ge (by decide) (by decide) (by decide) (by decide) rfl ?_ ?_
                          · intro kk67
                            exfalso; omega
                          · intro kk68
                            refine g_aload_n (n := 0) rfl rfl ?_
                            refine g_getf (v := vR 64) rfl (kl_61 _) rfl ?_
                            refine g_aload_n (n := 0) rfl rfl ?_
                            refine g_getf (v := vI (m.1 32)) rfl (kl_61 _) rfl ?_
                            refine g_iload (n := 5) rfl rfl ?_
                            refine g_iadd rfl ?_
                            have h69 : 0 ≤ m.2.1 64 (m.1 32 + 3) ∧ m.2.1 64 (m.1 32 + 3) ≤ 255 := hm.2 64 (m.1 32 + 3) (by omega) (show (m.1 32 + 3) < (200 : Int) by omega)
                            refine g_iald (f := m.2.1 64) rfl (kl_64 _) (by decide) (by omega) (by omega) ?_
                            refine g_bipush (by decide) rfl ?_
                            refine g_lload_n (n := 1) rfl rfl ?_
                            refine g_iconst rfl ?_
                            refine g_iload (n := 5) rfl rfl ?_
                            refine g_imulE (z := 15) (by decide) rfl ?_
                            refine g_lshr rfl ?_
                            intro z70 h71 h72 h73
                            have h74 : z70 = 26183 := h71.trans (by decide +kernel)
                            subst h74
                            refine g_ldc2 (x := 31) (by decide) rfl ?_
                            refine g_land rfl ?_
                            intro z75 h76 h77 h78
                            have h79 : z75 = 7 := h76.trans (by decide +kernel)
                            subst h79
                            refine g_l2i rfl ?_
                            refine g_iaddE (z := 103) (by decide) rfl ?_
                            refine g_icmp_ne (by omega) (by omega) (by decide) (by decide) rfl ?_ ?_
                            · intro kk80
                              refine g_iconst rfl ?_
                              refine g_istore (n := 4) (lo' := [(5, vI 3), (0, vR 61), (1, vL 857979560), (3, vI 6)]) rfl rfl ?_
                              refine g_iincE (z := 4) (by decide) (n := 5) (lo' := [(4, vI 0), (0, vR 61), (1, vL 857979560), (3, vI 6)]) rfl rfl rfl ?_
                              refine g_goto rfl ?_
                              refine g_iload (n := 4) rfl rfl ?_
                              refine g_if_eq (by decide) (by decide) rfl ?_ ?_
                              · intro kk81
                                refine g_iload (n := 4) rfl rfl ?_
                                refine g_zret rfl rfl (by omega) ?_
                                exact ⟨_, _, rfl, rfl, Or.inr ⟨rfl, by unfold wd8; omega⟩⟩
                              · intro kk82
                                exfalso; omega
                            · intro kk83
                              refine g_iconst rfl ?_
                              refine g_goto rfl ?_
                              refine g_istore (n := 4) (lo' := [(5, vI 3), (0, vR 61), (1, vL 857979560), (3, vI 6)]) rfl rfl ?_
                              refine g_iincE (z := 4) (by decide) (n := 5) (lo' := [(4, vI 1), (0, vR 61), (1, vL 857979560), (3, vI 6)]) rfl rfl rfl ?_
                              refine g_goto rfl ?_
                              refine g_iload (n := 4) rfl rfl ?_
                              refine g_if_eq (by decide) (by decide) rfl ?_ ?_
                              · intro kk84
                                exfalso; omega
                              · intro kk85
                                refine g_iload (n := 5) rfl rfl ?_
                                refine g_iload_n (n := 3) rfl rfl ?_
                                refine g_icmp_ge (by decide) (by decide) (by decide) (by decide) rfl ?_ ?_
                                · intro kk86
                                  exfalso; omega
                                · intro kk87
                                  refine g_aload_n (n := 0) rfl rfl ?_
                                  refine g_getf (v := vR 64) rfl (kl_61 _) rfl ?_
                                  refine g_aload_n (n := 0) rfl rfl ?_
                                  refine g_getf (v := vI (m.1 32)) rfl (kl_61 _) rfl ?_
                                  refine g_iload (n := 5) rfl rfl ?_
                                  refine g_iadd rfl ?_
                                  have h88 : 0 ≤ m.2.1 64 (m.1 32 + 4) ∧ m.2.1 64 (m.1 32 + 4) ≤ 255 := hm.2 64 (m.1 32 + 4) (by omega) (show (m.1 32 + 4) < (200 : Int) by omega)
                                  refine g_iald (f := m.2.1 64) rfl (kl_64 _) (by decide) (by omega) (by omega) ?_
                                  refine g_bipush (by decide) rfl ?_
                                  refine g_lload_n (n := 1) rfl rfl ?_
                                  refine g_iconst rfl ?_
                                  refine g_iload (n := 5) rfl rfl ?_
                                  refine g_imulE (z := 20) (by decide) rfl ?_
                                  refine g_lshr rfl ?_
                                  intro z89 h90 h91 h92
                                  have h93 : z89 = 818 := h90.trans (by decide +kernel)
                                  subst h93
                                  refine g_ldc2 (x := 31) (by decide) rfl ?_
                                  refine g_land rfl ?_
                                  intro z94 h95 h96 h97
                                  have h98 : z94 = 18 := h95.trans (by decide +kernel)
                                  subst h98
                                  refine g_l2i rfl ?_
                                  refine g_iaddE (z := 114) (by decide) rfl ?_
                                  refine g_icmp_ne (by omega) (by omega) (by decide) (by decide) rfl ?_ ?_
                                  · intro kk99
                                    refine g_iconst rfl ?_
                                    refine g_istore (n := 4) (lo' := [(5, vI 4), (0, vR 61), (1, vL 857979560), (3, vI 6)]) rfl rfl ?_
                                    refine g_iincE (z := 5) (by decide) (n := 5) (lo' := [(4, vI 0), (0, vR 61), (1, vL 857979560), (3, vI 6)]) rfl rfl rfl ?_
                                    refine g_goto rfl ?_
                                    refine g_iload (n := 4) rfl rfl ?_
                                    refine g_if_eq (by decide) (by decide) rfl ?_ ?_
                                    · intro kk100
                                      refine g_iload (n := 4) rfl rfl ?_
                                      refine g_zret rfl rfl (by omega) ?_
                                      exact ⟨_, _, rfl, rfl, Or.inr ⟨rfl, by unfold wd8; omega⟩⟩
                                    · intro kk101
                                      exfalso; omega
                                  · intro kk102
                                    refine g_iconst rfl ?_
                                    refine g_goto rfl ?_
                                    refine g_istore (n := 4) (lo' := [(5, vI 4), (0, vR 61), (1, vL 857979560), (3, vI 6)]) rfl rfl ?_
                                    refine g_iincE (z := 5) (by decide) (n := 5) (lo' := [(4, vI 1), (0, vR 61), (1, vL 857979560), (3, vI 6)]) rfl rfl rfl ?_
                                    refine g_goto rfl ?_
                                    refine g_iload (n := 4) rfl rfl ?_
                                    refine g_if_eq (by decide) (by decide) rfl ?_ ?_
                                    · intro kk103
                                      exfalso; omega
                                    · intro kk104
                                      refine g_iload (n := 5) rfl rfl ?_
                                      refine g_iload_n (n := 3) rfl rfl ?_
                                      refine g_icmp_ge (by decide) (by decide) (by decide) (by decide) rfl ?_ ?_
                                      · intro kk105
                                        exfalso; omega
                                      · intro kk106
                                        refine g_aload_n (n := 0) rfl rfl ?_
                                        refine g_getf (v := vR 64) rfl (kl_61 _) rfl ?_
                                        refine g_aload_n (n := 0) rfl rfl ?_
                                        refine g_getf (v := vI (m.1 32)) rfl (kl_61 _) rfl ?_
                                        refine g_iload (n := 5) rfl rfl ?_
                                        refine g_iadd rfl ?_
                                        have h107 : 0 ≤ m.2.1 64 (m.1 32 + 5) ∧ m.2.1 64 (m.1 32 + 5) ≤ 255 := hm.2 64 (m.1 32 + 5) (by omega) (show (m.1 32 + 5) < (200 : Int) by omega)
                                        refine g_iald (f := m.2.1 64) rfl (kl_64 _) (by decide) (by omega) (by omega) ?_
                                        refine g_bipush (by decide) rfl ?_
                                        refine g_lload_n (n := 1) rfl rfl ?_
                                        refine g_iconst rfl ?_
                                        refine g_iload (n := 5) rfl rfl ?_
                                        refine g_imulE (z := 25) (by decide) rfl ?_
                                        refine g_lshr rfl ?_
                                        intro z108 h109 h110 h111
                                        have h112 : z108 = 25 := h109.trans (by decide +kernel)
                                        subst h112
                                        refine g_ldc2 (x := 31) (by decide) rfl ?_
                                        refine g_land rfl ?_
                                        intro z113 h114 h115 h116
                                        have h117 : z113 = 25 := h114.trans (by decide +kernel)
                                        subst h117
                                        refine g_l2i rfl ?_
                                        refine g_iaddE (z := 121) (by decide) rfl ?_
                                        refine g_icmp_ne (by omega) (by omega) (by decide) (by decide) rfl ?_ ?_
                                        · intro kk118
                                          refine g_iconst rfl ?_
                                          refine g_istore (n := 4) (lo' := [(5, vI 5), (0, vR 61), (1, vL 857979560), (3, vI 6)]) rfl rfl ?_
                                          refine g_iincE (z := 6) (by decide) (n := 5) (lo' := [(4, vI 0), (0, vR 61), (1, vL 857979560), (3, vI 6)]) rfl rfl rfl ?_
                                          refine g_goto rfl ?_
                                          refine g_iload (n := 4) rfl rfl ?_
                                          refine g_if_eq (by decide) (by decide) rfl ?_ ?_
                                          · intro kk119
                                            refine g_iload (n := 4) rfl rfl ?_
                                            refine g_zret rfl rfl (by omega) ?_
                                            exact ⟨_, _, rfl, rfl, Or.inr ⟨rfl, by unfold wd8; omega⟩⟩
                                          · intro kk120
                                            exfalso; omega
                                        · intro kk121
                                          refine g_iconst rfl ?_
                                          refine g_goto rfl ?_
                                          refine g_istore (n := 4) (lo' := [(5, vI 5), (0, vR 61), (1, vL 857979560), (3, vI 6)]) rfl rfl ?_
                                          refine g_iincE (z := 6) (by decide) (n := 5) (lo' := [(4, vI 1), (0, vR 61), (1, vL 857979560), (3, vI 6)]) rfl rfl rfl ?_
                                          refine g_goto rfl ?_
                                          refine g_iload (n := 4) rfl rfl ?_
                                          refine g_if_eq (by decide) (by decide) rfl ?_ ?_
                                          · intro kk122
                                            exfalso; omega
                                          · intro kk123
                                            refine g_iload (n := 5) rfl rfl ?_
                                            refine g_iload_n (n := 3) rfl rfl ?_
                                            refine g_icmp_ge (by decide) (by decide) (by decide) (by decide) rfl ?_ ?_
                                            · intro kk124
                                              refine g_iload (n := 4) rfl rfl ?_
                                              refine g_zret rfl rfl (by omega) ?_
                                              exact ⟨_, _, rfl, rfl, Or.inl ⟨rfl, by unfold wd8; omega⟩⟩
                                            · intro kk125
                                              exfalso; omega
theorem d_isWord_9 {V : cg_V} {d q : Nat} (hd : 0 ≤ d) (hq : 0 ≤ q) {m : kM} (hm : kI m) {x : Int} (h_x : 525811 ≤ x ∧ x ≤ 525811) : cg_S V d q mX10_isWord [vR 61, vL x, vI 4] (kl m) (R_I (fun z m' => (m = m') ∧ ((z = 1 ∧ wd9 (m.2.1 64) (m.1 32) (m.1 33)) ∨ (z = 0 ∧ ¬ wd9 (m.2.1 64) (m.1 32) (m.1 33))))) := by
  refine cg_of (List.mem_of_getElem? (show ae_MT[126]? = some mX10_isWord from rfl)) (Nat.le_of_ble_eq_true rfl) ?_
  show cg_G V mX10_isWord d q _ 0 [(0, vR 61), (1, vL x), (3, vI 4)] [] (kl m) 0 0
  have h1 : 0 ≤ m.1 32 ∧ m.1 32 ≤ 200 := hm.1 32
  have h2 : 0 ≤ m.1 33 ∧ m.1 33 ≤ 200 := hm.1 33
  have h3 : x = 525811 := by omega
  rcases h3 with rfl
  · refine g_aload_n (n := 0) rfl rfl ?_
    refine g_getf (v := vI (m.1 33)) rfl (kl_61 _) rfl ?_
    refine g_aload_n (n := 0) rfl rfl ?_
    refine g_getf (v := vI (m.1 32)) rfl (kl_61 _) rfl ?_
    refine g_isub rfl ?_
    refine g_iload_n (n := 3) rfl rfl ?_
    refine g_icmp_ne (by omega) (by omega) (by decide) (by decide) rfl ?_ ?_
    · intro kk4
      refine g_iconst rfl ?_
      refine g_istore (n := 4) (lo' := [(0, vR 61), (1, vL 525811), (3, vI 4)]) rfl rfl ?_
      refine g_iconst rfl ?_
      refine g_istore (n := 5) (lo' := [(4, vI 0), (0, vR 61), (1, vL 525811), (3, vI 4)]) rfl rfl ?_
      refine g_iload (n := 4) rfl rfl ?_
      refine g_if_eq (by decide) (by decide) rfl ?_ ?_
      · intro kk5
        refine g_iload (n := 4) rfl rfl ?_
        refine g_zret rfl rfl (by omega) ?_
        exact ⟨_, _, rfl, rfl, Or.inr ⟨rfl, by unfold wd9; omega⟩⟩
      · intro kk6
        exfalso; omega
    · intro kk7
      refine g_iconst rfl ?_
      refine g_goto rfl ?_
      refine g_istore (n := 4) (lo' := [(0, vR 61), (1, vL 525811), (3, vI 4)]) rfl rfl ?_
      refine g_iconst rfl ?_
      refine g_istore (n := 5) (lo' := [(4, vI 1), (0, vR 61), (1, vL 525811), (3, vI 4)]) rfl rfl ?_
      refine g_iload (n := 4) rfl rfl ?_
      refine g_if_eq (by decide) (by decide) rfl ?_ ?_
      · intro kk8
        exfalso; omega
      · intro kk9
        refine g_iload (n := 5) rfl rfl ?_
        refine g_iload_n (n := 3) rfl rfl ?_
        refine g_icmp_ge (by decide) (by decide) (by decide) (by decide) rfl ?_ ?_
        · intro kk10
          exfalso; omega
        · intro kk11
          refine g_aload_n (n := 0) rfl rfl ?_
          refine g_getf (v := vR 64) rfl (kl_61 _) rfl ?_
          refine g_aload_n (n := 0) rfl rfl ?_
          refine g_getf (v := vI (m.1 32)) rfl (kl_61 _) rfl ?_
          refine g_iload (n := 5) rfl rfl ?_
          refine g_iaddE (z := m.1 32) (by omega) rfl ?_
          have h12 : 0 ≤ m.2.1 64 (m.1 32) ∧ m.2.1 64 (m.1 32) ≤ 255 := hm.2 64 (m.1 32) (by omega) (show m.1 32 < (200 : Int) by omega)
          refine g_iald (f := m.2.1 64) rfl (kl_64 _) (by decide) (by omega) (by omega) ?_
          refine g_bipush (by decide) rfl ?_
          refine g_lload_n (n := 1) rfl rfl ?_
          refine g_iconst rfl ?_
          refine g_iload (n := 5) rfl rfl ?_
          refine g_imulE (z := 0) (by decide) rfl ?_
          refine g_lshr rfl ?_
          intro z13 h14 h15 h16
          have h17 : z13 = 525811 := h14.trans (by decide +kernel)
          subst h17
          refine g_ldc2 (x := 31) (by decide) rfl ?_
          refine g_land rfl ?_
          intro z18 h19 h20 h21
          have h22 : z18 = 19 := h19.trans (by decide +kernel)
          subst h22
          refine g_l2i rfl ?_
          refine g_iaddE (z := 115) (by decide) rfl ?_
          refine g_icmp_ne (by omega) (by omega) (by decide) (by decide) rfl ?_ ?_
          · intro kk23
            refine g_iconst rfl ?_
            refine g_istore (n := 4) (lo' := [(5, vI 0), (0, vR 61), (1, vL 525811), (3, vI 4)]) rfl rfl ?_
            refine g_iincE (z := 1) (by decide) (n := 5) (lo' := [(4, vI 0), (0, vR 61), (1, vL 525811), (3, vI 4)]) rfl rfl rfl ?_
            refine g_goto rfl ?_
            refine g_iload (n := 4) rfl rfl ?_
            refine g_if_eq (by decide) (by decide) rfl ?_ ?_
            · intro kk24
              refine g_iload (n := 4) rfl rfl ?_
              refine g_zret rfl rfl (by omega) ?_
              exact ⟨_, _, rfl, rfl, Or.inr ⟨rfl, by unfold wd9; omega⟩⟩
            · intro kk25
              exfalso; omega
          · intro kk26
            refine g_iconst rfl ?_
            refine g_goto rfl ?_
            refine g_istore (n := 4) (lo' := [(5, vI 0), (0, vR 61), (1, vL 525811), (3, vI 4)]) rfl rfl ?_
            refine g_iincE (z := 1) (by decide) (n := 5) (lo' := [(4, vI 1), (0, vR 61), (1, vL 525811), (3, vI 4)]) rfl rfl rfl ?_
            refine g_goto rfl ?_
            refine g_iload (n := 4) rfl rfl ?_
            refine g_if_eq (by decide) (by decide) rfl ?_ ?_
            · intro kk27
              exfalso; omega
            · intro kk28
              refine g_iload (n := 5) rfl rfl ?_
              refine g_iload_n (n := 3) rfl rfl ?_
              refine g_icmp_ge (by decide) (by decide) (by decide) (by decide) rfl ?_ ?_
              · intro kk29
                exfalso; omega
              · intro kk30
                refine g_aload_n (n := 0) rfl rfl ?_
                refine g_getf (v := vR 64) rfl (kl_61 _) rfl ?_
                refine g_aload_n (n := 0) rfl rfl ?_
                refine g_getf (v := vI (m.1 32)) rfl (kl_61 _) rfl ?_
                refine g_iload (n := 5) rfl rfl ?_
                refine g_iadd rfl ?_
                have h31 : 0 ≤ m.2.1 64 (m.1 32 + 1) ∧ m.2.1 64 (m.1 32 + 1) ≤ 255 := hm.2 64 (m.1 32 + 1) (by omega) (show (m.1 32 + 1) < (200 : Int) by omega)
                refine g_iald (f := m.2.1 64) rfl (kl_64 _) (by decide) (by omega) (by omega) ?_
                refine g_bipush (by decide) rfl ?_
                refine g_lload_n (n := 1) rfl rfl ?_
                refine g_iconst rfl ?_
                refine g_iload (n := 5) rfl rfl ?_
                refine g_imulE (z := 5) (by decide) rfl ?_
                refine g_lshr rfl ?_
                intro z32 h33 h34 h35
                have h36 : z32 = 16431 := h33.trans (by decide +kernel)
                subst h36
                refine g_ldc2 (x := 31) (by decide) rfl ?_
                refine g_land rfl ?_
                intro z37 h38 h39 h40
                have h41 : z37 = 15 := h38.trans (by decide +kernel)
                subst h41
                refine g_l2i rfl ?_
                refine g_iaddE (z := 111) (by decide) rfl ?_
                refine g_icmp_ne (by omega) (by omega) (by decide) (by decide) rfl ?_ ?_
                · intro kk42
                  refine g_iconst rfl ?_
                  refine g_istore (n := 4) (lo' := [(5, vI 1), (0, vR 61), (1, vL 525811), (3, vI 4)]) rfl rfl ?_
                  refine g_iincE (z := 2) (by decide) (n := 5) (lo' := [(4, vI 0), (0, vR 61), (1, vL 525811), (3, vI 4)]) rfl rfl rfl ?_
                  refine g_goto rfl ?_
                  refine g_iload (n := 4) rfl rfl ?_
                  refine g_if_eq (by decide) (by decide) rfl ?_ ?_
                  · intro kk43
                    refine g_iload (n := 4) rfl rfl ?_
                    refine g_zret rfl rfl (by omega) ?_
                    exact ⟨_, _, rfl, rfl, Or.inr ⟨rfl, by unfold wd9; omega⟩⟩
                  · intro kk44
                    exfalso; omega
                · intro kk45
                  refine g_iconst rfl ?_
                  refine g_goto rfl ?_
                  refine g_istore (n := 4) (lo' := [(5, vI 1), (0, vR 61), (1, vL 525811), (3, vI 4)]) rfl rfl ?_
                  refine g_iincE (z := 2) (by decide) (n := 5) (lo' := [(4, vI 1), (0, vR 61), (1, vL 525811), (3, vI 4)]) rfl rfl rfl ?_
                  refine g_goto rfl ?_
                  refine g_iload (n := 4) rfl rfl ?_
                  refine g_if_eq (by decide) (by decide) rfl ?_ ?_
                  · intro kk46
                    exfalso; omega
                  · intro kk47
                    refine g_iload (n := 5) rfl rfl ?_
                    refine g_iload_n (n := 3) rfl rfl ?_
                    refine g_icmp_ge (by decide) (by decide) (by decide) (by decide) rfl ?_ ?_
                    · intro kk48
                      exfalso; omega
                    · intro kk49
                      refine g_aload_n (n := 0) rfl rfl ?_
                      refine g_getf (v := vR 64) rfl (kl_61 _) rfl ?_
                      refine g_aload_n (n := 0) rfl rfl ?_
                      refine g_getf (v := vI (m.1 32)) rfl (kl_61 _) rfl ?_
                      refine g_iload (n := 5) rfl rfl ?_
                      refine g_iadd rfl ?_
                      have h50 : 0 ≤ m.2.1 64 (m.1 32 + 2) ∧ m.2.1 64 (m.1 32 + 2) ≤ 255 := hm.2 64 (m.1 32 + 2) (by omega) (show (m.1 32 + 2) < (200 : Int) by omega)
                      refine g_iald (f := m.2.1 64) rfl (kl_64 _) (by decide) (by omega) (by omega) ?_
                      refine g_bipush (by decide) rfl ?_
                      refine g_lload_n (n := 1) rfl rfl ?_
                      refine g_iconst rfl ?_
                      refine g_iload (n := 5) rfl rfl ?_
                      refine g_imulE (z := 10) (by decide) rfl ?_
                      refine g_lshr rfl ?_
                      intro z51 h52 h53 h54
                      have h55 : z51 = 513 := h52.trans (by decide +kernel)
                      subst h55
                      refine g_ldc2 (x := 31) (by decide) rfl ?_
                      refine g_land rfl ?_
                      intro z56 h57 h58 h59
                      have h60 : z56 = 1 := h57.trans (by decide +kernel)
                      subst h60
                      refine g_l2i rfl ?_
                      refine g_iaddE (z := 97) (by decide) rfl ?_
                      refine g_icmp_ne (by omega) (by omega) (by decide) (by decide) rfl ?_ ?_
                      · intro kk61
                        refine g_iconst rfl ?_
                        refine g_istore (n := 4) (lo' := [(5, vI 2), (0, vR 61), (1, vL 525811), (3, vI 4)]) rfl rfl ?_
                        refine g_iincE (z := 3) (by decide) (n := 5) (lo' := [(4, vI 0), (0, vR 61), (1, vL 525811), (3, vI 4)]) rfl rfl rfl ?_
                        refine g_goto rfl ?_
                        refine g_iload (n := 4) rfl rfl ?_
                        refine g_if_eq (by decide) (by decide) rfl ?_ ?_
                        · intro kk62
                          refine g_iload (n := 4) rfl rfl ?_
                          refine g_zret rfl rfl (by omega) ?_
                          exact ⟨_, _, rfl, rfl, Or.inr ⟨rfl, by unfold wd9; omega⟩⟩
                        · intro kk63
                          exfalso; omega
                      · intro kk64
                        refine g_iconst rfl ?_
                        refine g_goto rfl ?_
                        refine g_istore (n := 4) (lo' := [(5, vI 2), (0, vR 61), (1, vL 525811), (3, vI 4)]) rfl rfl ?_
                        refine g_iincE (z := 3) (by decide) (n := 5) (lo' := [(4, vI 1), (0, vR 61), (1, vL 525811), (3, vI 4)]) rfl rfl rfl ?_
                        refine g_goto rfl ?_
                        refine g_iload (n := 4) rfl rfl ?_
                        refine g_if_eq (by decide) (by decide) rfl ?_ ?_
                        · intro kk65
                          exfalso; omega
                        · intro kk66
                          refine g_iload (n := 5) rfl rfl ?_
                          refine g_iload_n (n := 3) rfl rfl ?_
                          refine g_icmp_ge (by decide) (by decide) (by decide) (by decide) rfl ?_ ?_
                          · intro kk67
                            exfalso; omega
                          · intro kk68
                            refine g_aload_n (n := 0) rfl rfl ?_
                            refine g_getf (v := vR 64) rfl (kl_61 _) rfl ?_
                            refine g_aload_n (n := 0) rfl rfl ?_
                            refine g_getf (v := vI (m.1 32)) rfl (kl_61 _) rfl ?_
                            refine g_iload (n := 5) rfl rfl ?_
                            refine g_iadd rfl ?_
                            have h69 : 0 ≤ m.2.1 64 (m.1 32 + 3) ∧ m.2.1 64 (m.1 32 + 3) ≤ 255 := hm.2 64 (m.1 32 + 3) (by omega) (show (m.1 32 + 3) < (200 : Int) by omega)
                            refine g_iald (f := m.2.1 64) rfl (kl_64 _) (by decide) (by omega) (by omega) ?_
                            refine g_bipush (by decide) rfl ?_
                            refine g_lload_n (n := 1) rfl rfl ?_
                            refine g_iconst rfl ?_
                            refine g_iload (n := 5) rfl rfl ?_
                            refine g_imulE (z := 15) (by decide) rfl ?_
                            refine g_lshr rfl ?_
                            intro z70 h71 h72 h73
                            have h74 : z70 = 16 := h71.trans (by decide +kernel)
                            subst h74
                            refine g_ldc2 (x := 31) (by decide) rfl ?_
                            refine g_land rfl ?_
                            intro z75 h76 h77 h78
                            have h79 : z75 = 16 := h76.trans (by decide +kernel)
                            subst h79
                            refine g_l2i rfl ?_
                            refine g_iaddE (z := 112) (by decide) rfl ?_
                            refine g_icmp_ne (by omega) (by omega) (by decide) (by decide) rfl ?_ ?_
                            · intro kk80
                              refine g_iconst rfl ?_
                              refine g_istore (n := 4) (lo' := [(5, vI 3), (0, vR 61), (1, vL 525811), (3, vI 4)]) rfl rfl ?_
                              refine g_iincE (z := 4) (by decide) (n := 5) (lo' := [(4, vI 0), (0, vR 61), (1, vL 525811), (3, vI 4)]) rfl rfl rfl ?_
                              refine g_goto rfl ?_
                              refine g_iload (n := 4) rfl rfl ?_
                              refine g_if_eq (by decide) (by decide) rfl ?_ ?_
                              · intro kk81
                                refine g_iload (n := 4) rfl rfl ?_
                                refine g_zret rfl rfl (by omega) ?_
                                exact ⟨_, _, rfl, rfl, Or.inr ⟨rfl, by unfold wd9; omega⟩⟩
                              · intro kk82
                                exfalso; omega
                            · intro kk83
                              refine g_iconst rfl ?_
                              refine g_goto rfl ?_
                              refine g_istore (n := 4) (lo' := [(5, vI 3), (0, vR 61), (1, vL 525811), (3, vI 4)]) rfl rfl ?_
                              refine g_iincE (z := 4) (by decide) (n := 5) (lo' := [(4, vI 1), (0, vR 61), (1, vL 525811), (3, vI 4)]) rfl rfl rfl ?_
                              refine g_goto rfl ?_
                              refine g_iload (n := 4) rfl rfl ?_
                              refine g_if_eq (by decide) (by decide) rfl ?_ ?_
                              · intro kk84
                                exfalso; omega
                              · intro kk85
                                refine g_iload (n := 5) rfl rfl ?_
                                refine g_iload_n (n := 3) rfl rfl ?_
                                refine g_icmp_ge (by decide) (by decide) (by decide) (by decide) rfl ?_ ?_
                                · intro kk86
                                  refine g_iload (n := 4) rfl rfl ?_
                                  refine g_zret rfl rfl (by omega) ?_
                                  exact ⟨_, _, rfl, rfl, Or.inl ⟨rfl, by unfold wd9; omega⟩⟩
                                · intro kk87
                                  exfalso; omega
theorem d_isWord_10 {V : cg_V} {d q : Nat} (hd : 0 ≤ d) (hq : 0 ≤ q) {m : kM} (hm : kI m) {x : Int} (h_x : 25771 ≤ x ∧ x ≤ 25771) : cg_S V d q mX10_isWord [vR 61, vL x, vI 3] (kl m) (R_I (fun z m' => (m = m') ∧ ((z = 1 ∧ wd10 (m.2.1 64) (m.1 32) (m.1 33)) ∨ (z = 0 ∧ ¬ wd10 (m.2.1 64) (m.1 32) (m.1 33))))) := by
  refine cg_of (List.mem_of_getElem? (show ae_MT[126]? = some mX10_isWord from rfl)) (Nat.le_of_ble_eq_true rfl) ?_
  show cg_G V mX10_isWord d q _ 0 [(0, vR 61), (1, vL x), (3, vI 3)] [] (kl m) 0 0
  have h1 : 0 ≤ m.1 32 ∧ m.1 32 ≤ 200 := hm.1 32
  have h2 : 0 ≤ m.1 33 ∧ m.1 33 ≤ 200 := hm.1 33
  have h3 : x = 25771 := by omega
  rcases h3 with rfl
  · refine g_aload_n (n := 0) rfl rfl ?_
    refine g_getf (v := vI (m.1 33)) rfl (kl_61 _) rfl ?_
    refine g_aload_n (n := 0) rfl rfl ?_
    refine g_getf (v := vI (m.1 32)) rfl (kl_61 _) rfl ?_
    refine g_isub rfl ?_
    refine g_iload_n (n := 3) rfl rfl ?_
    refine g_icmp_ne (by omega) (by omega) (by decide) (by decide) rfl ?_ ?_
    · intro kk4
      refine g_iconst rfl ?_
      refine g_istore (n := 4) (lo' := [(0, vR 61), (1, vL 25771), (3, vI 3)]) rfl rfl ?_
      refine g_iconst rfl ?_
      refine g_istore (n := 5) (lo' := [(4, vI 0), (0, vR 61), (1, vL 25771), (3, vI 3)]) rfl rfl ?_
      refine g_iload (n := 4) rfl rfl ?_
      refine g_if_eq (by decide) (by decide) rfl ?_ ?_
      · intro kk5
        refine g_iload (n := 4) rfl rfl ?_
        refine g_zret rfl rfl (by omega) ?_
        exact ⟨_, _, rfl, rfl, Or.inr ⟨rfl, by unfold wd10; omega⟩⟩
      · intro kk6
        exfalso; omega
    · intro kk7
      refine g_iconst rfl ?_
      refine g_goto rfl ?_
      refine g_istore (n := 4) (lo' := [(0, vR 61), (1, vL 25771), (3, vI 3)]) rfl rfl ?_
      refine g_iconst rfl ?_
      refine g_istore (n := 5) (lo' := [(4, vI 1), (0, vR 61), (1, vL 25771), (3, vI 3)]) rfl rfl ?_
      refine g_iload (n := 4) rfl rfl ?_
      refine g_if_eq (by decide) (by decide) rfl ?_ ?_
      · intro kk8
        exfalso; omega
      · intro kk9
        refine g_iload (n := 5) rfl rfl ?_
        refine g_iload_n (n := 3) rfl rfl ?_
        refine g_icmp_ge (by decide) (by decide) (by decide) (by decide) rfl ?_ ?_
        · intro kk10
          exfalso; omega
        · intro kk11
          refine g_aload_n (n := 0) rfl rfl ?_
          refine g_getf (v := vR 64) rfl (kl_61 _) rfl ?_
          refine g_aload_n (n := 0) rfl rfl ?_
          refine g_getf (v := vI (m.1 32)) rfl (kl_61 _) rfl ?_
          refine g_iload (n := 5) rfl rfl ?_
          refine g_iaddE (z := m.1 32) (by omega) rfl ?_
          have h12 : 0 ≤ m.2.1 64 (m.1 32) ∧ m.2.1 64 (m.1 32) ≤ 255 := hm.2 64 (m.1 32) (by omega) (show m.1 32 < (200 : Int) by omega)
          refine g_iald (f := m.2.1 64) rfl (kl_64 _) (by decide) (by omega) (by omega) ?_
          refine g_bipush (by decide) rfl ?_
          refine g_lload_n (n := 1) rfl rfl ?_
          refine g_iconst rfl ?_
          refine g_iload (n := 5) rfl rfl ?_
          refine g_imulE (z := 0) (by decide) rfl ?_
          refine g_lshr rfl ?_
          intro z13 h14 h15 h16
          have h17 : z13 = 25771 := h14.trans (by decide +kernel)
          subst h17
          refine g_ldc2 (x := 31) (by decide) rfl ?_
          refine g_land rfl ?_
          intro z18 h19 h20 h21
          have h22 : z18 = 11 := h19.trans (by decide +kernel)
          subst h22
          refine g_l2i rfl ?_
          refine g_iaddE (z := 107) (by decide) rfl ?_
          refine g_icmp_ne (by omega) (by omega) (by decide) (by decide) rfl ?_ ?_
          · intro kk23
            refine g_iconst rfl ?_
            refine g_istore (n := 4) (lo' := [(5, vI 0), (0, vR 61), (1, vL 25771), (3, vI 3)]) rfl rfl ?_
            refine g_iincE (z := 1) (by decide) (n := 5) (lo' := [(4, vI 0), (0, vR 61), (1, vL 25771), (3, vI 3)]) rfl rfl rfl ?_
            refine g_goto rfl ?_
            refine g_iload (n := 4) rfl rfl ?_
            refine g_if_eq (by decide) (by decide) rfl ?_ ?_
            · intro kk24
              refine g_iload (n := 4) rfl rfl ?_
              refine g_zret rfl rfl (by omega) ?_
              exact ⟨_, _, rfl, rfl, Or.inr ⟨rfl, by unfold wd10; omega⟩⟩
            · intro kk25
              exfalso; omega
          · intro kk26
            refine g_iconst rfl ?_
            refine g_goto rfl ?_
            refine g_istore (n := 4) (lo' := [(5, vI 0), (0, vR 61), (1, vL 25771), (3, vI 3)]) rfl rfl ?_
            refine g_iincE (z := 1) (by decide) (n := 5) (lo' := [(4, vI 1), (0, vR 61), (1, vL 25771), (3, vI 3)]) rfl rfl rfl ?_
            refine g_goto rfl ?_
            refine g_iload (n := 4) rfl rfl ?_
            refine g_if_eq (by decide) (by decide) rfl ?_ ?_
            · intro kk27
              exfalso; omega
            · intro kk28
              refine g_iload (n := 5) rfl rfl ?_
              refine g_iload_n (n := 3) rfl rfl ?_
              refine g_icmp_ge (by decide) (by decide) (by decide) (by decide) rfl ?_ ?_
              · intro kk29
                exfalso; omega
              · intro kk30
                refine g_aload_n (n := 0) rfl rfl ?_
                refine g_getf (v := vR 64) rfl (kl_61 _) rfl ?_
                refine g_aload_n (n := 0) rfl rfl ?_
                refine g_getf (v := vI (m.1 32)) rfl (kl_61 _) rfl ?_
                refine g_iload (n := 5) rfl rfl ?_
                refine g_iadd rfl ?_
                have h31 : 0 ≤ m.2.1 64 (m.1 32 + 1) ∧ m.2.1 64 (m.1 32 + 1) ≤ 255 := hm.2 64 (m.1 32 + 1) (by omega) (show (m.1 32 + 1) < (200 : Int) by omega)
                refine g_iald (f := m.2.1 64) rfl (kl_64 _) (by decide) (by omega) (by omega) ?_
                refine g_bipush (by decide) rfl ?_
                refine g_lload_n (n := 1) rfl rfl ?_
                refine g_iconst rfl ?_
                refine g_iload (n := 5) rfl rfl ?_
                refine g_imulE (z := 5) (by decide) rfl ?_
                refine g_lshr rfl ?_
                intro z32 h33 h34 h35
                have h36 : z32 = 805 := h33.trans (by decide +kernel)
                subst h36
                refine g_ldc2 (x := 31) (by decide) rfl ?_
                refine g_land rfl ?_
                intro z37 h38 h39 h40
                have h41 : z37 = 5 := h38.trans (by decide +kernel)
                subst h41
                refine g_l2i rfl ?_
                refine g_iaddE (z := 101) (by decide) rfl ?_
                refine g_icmp_ne (by omega) (by omega) (by decide) (by decide) rfl ?_ ?_
                · intro kk42
                  refine g_iconst rfl ?_
                  refine g_istore (n := 4) (lo' := [(5, vI 1), (0, vR 61), (1, vL 25771), (3, vI 3)]) rfl rfl ?_
                  refine g_iincE (z := 2) (by decide) (n := 5) (lo' := [(4, vI 0), (0, vR 61), (1, vL 25771), (3, vI 3)]) rfl rfl rfl ?_
                  refine g_goto rfl ?_
                  refine g_iload (n := 4) rfl rfl ?_
                  refine g_if_eq (by decide) (by decide) rfl ?_ ?_
                  · intro kk43
                    refine g_iload (n := 4) rfl rfl ?_
                    refine g_zret rfl rfl (by omega) ?_
                    exact ⟨_, _, rfl, rfl, Or.inr ⟨rfl, by unfold wd10; omega⟩⟩
                  · intro kk44
                    exfalso; omega
                · intro kk45
                  refine g_iconst rfl ?_
                  refine g_goto rfl ?_
                  refine g_istore (n := 4) (lo' := [(5, vI 1), (0, vR 61), (1, vL 25771), (3, vI 3)]) rfl rfl ?_
                  refine g_iincE (z := 2) (by decide) (n := 5) (lo' := [(4, vI 1), (0, vR 61), (1, vL 25771), (3, vI 3)]) rfl rfl rfl ?_
                  refine g_goto rfl ?_
                  refine g_iload (n := 4) rfl rfl ?_
                  refine g_if_eq (by decide) (by decide) rfl ?_ ?_
                  · intro kk46
                    exfalso; omega
                  · intro kk47
                    refine g_iload (n := 5) rfl rfl ?_
                    refine g_iload_n (n := 3) rfl rfl ?_
                    refine g_icmp_ge (by decide) (by decide) (by decide) (by decide) rfl ?_ ?_
                    · intro kk48
                      exfalso; omega
                    · intro kk49
                      refine g_aload_n (n := 0) rfl rfl ?_
                      refine g_getf (v := vR 64) rfl (kl_61 _) rfl ?_
                      refine g_aload_n (n := 0) rfl rfl ?_
                      refine g_getf (v := vI (m.1 32)) rfl (kl_61 _) rfl ?_
                      refine g_iload (n := 5) rfl rfl ?_
                      refine g_iadd rfl ?_
                      have h50 : 0 ≤ m.2.1 64 (m.1 32 + 2) ∧ m.2.1 64 (m.1 32 + 2) ≤ 255 := hm.2 64 (m.1 32 + 2) (by omega) (show (m.1 32 + 2) < (200 : Int) by omega)
                      refine g_iald (f := m.2.1 64) rfl (kl_64 _) (by decide) (by omega) (by omega) ?_
                      refine g_bipush (by decide) rfl ?_
                      refine g_lload_n (n := 1) rfl rfl ?_
                      refine g_iconst rfl ?_
                      refine g_iload (n := 5) rfl rfl ?_
                      refine g_imulE (z := 10) (by decide) rfl ?_
                      refine g_lshr rfl ?_
                      intro z51 h52 h53 h54
                      have h55 : z51 = 25 := h52.trans (by decide +kernel)
                      subst h55
                      refine g_ldc2 (x := 31) (by decide) rfl ?_
                      refine g_land rfl ?_
                      intro z56 h57 h58 h59
                      have h60 : z56 = 25 := h57.trans (by decide +kernel)
                      subst h60
                      refine g_l2i rfl ?_
                      refine g_iaddE (z := 121) (by decide) rfl ?_
                      refine g_icmp_ne (by omega) (by omega) (by decide) (by decide) rfl ?_ ?_
                      · intro kk61
                        refine g_iconst rfl ?_
                        refine g_istore (n := 4) (lo' := [(5, vI 2), (0, vR 61), (1, vL 25771), (3, vI 3)]) rfl rfl ?_
                        refine g_iincE (z := 3) (by decide) (n := 5) (lo' := [(4, vI 0), (0, vR 61), (1, vL 25771), (3, vI 3)]) rfl rfl rfl ?_
                        refine g_goto rfl ?_
                        refine g_iload (n := 4) rfl rfl ?_
                        refine g_if_eq (by decide) (by decide) rfl ?_ ?_
                        · intro kk62
                          refine g_iload (n := 4) rfl rfl ?_
                          refine g_zret rfl rfl (by omega) ?_
                          exact ⟨_, _, rfl, rfl, Or.inr ⟨rfl, by unfold wd10; omega⟩⟩
                        · intro kk63
                          exfalso; omega
                      · intro kk64
                        refine g_iconst rfl ?_
                        refine g_goto rfl ?_
                        refine g_istore (n := 4) (lo' := [(5, vI 2), (0, vR 61), (1, vL 25771), (3, vI 3)]) rfl rfl ?_
                        refine g_iincE (z := 3) (by decide) (n := 5) (lo' := [(4, vI 1), (0, vR 61), (1, vL 25771), (3, vI 3)]) rfl rfl rfl ?_
                        refine g_goto rfl ?_
                        refine g_iload (n := 4) rfl rfl ?_
                        refine g_if_eq (by decide) (by decide) rfl ?_ ?_
                        · intro kk65
                          exfalso; omega
                        · intro kk66
                          refine g_iload (n := 5) rfl rfl ?_
                          refine g_iload_n (n := 3) rfl rfl ?_
                          refine g_icmp_ge (by decide) (by decide) (by decide) (by decide) rfl ?_ ?_
                          · intro kk67
                            refine g_iload (n := 4) rfl rfl ?_
                            refine g_zret rfl rfl (by omega) ?_
                            exact ⟨_, _, rfl, rfl, Or.inl ⟨rfl, by unfold wd10; omega⟩⟩
                          · intro kk68
                            exfalso; omega
theorem d_isWord_11 {V : cg_V} {d q : Nat} (hd : 0 ≤ d) (hq : 0 ≤ q) {m : kM} (hm : kI m) {x : Int} (h_x : 4785831 ≤ x ∧ x ≤ 4785831) : cg_S V d q mX10_isWord [vR 61, vL x, vI 5] (kl m) (R_I (fun z m' => (m = m') ∧ ((z = 1 ∧ wd11 (m.2.1 64) (m.1 32) (m.1 33)) ∨ (z = 0 ∧ ¬ wd11 (m.2.1 64) (m.1 32) (m.1 33))))) := by
  refine cg_of (List.mem_of_getElem? (show ae_MT[126]? = some mX10_isWord from rfl)) (Nat.le_of_ble_eq_true rfl) ?_
  show cg_G V mX10_isWord d q _ 0 [(0, vR 61), (1, vL x), (3, vI 5)] [] (kl m) 0 0
  have h1 : 0 ≤ m.1 32 ∧ m.1 32 ≤ 200 := hm.1 32
  have h2 : 0 ≤ m.1 33 ∧ m.1 33 ≤ 200 := hm.1 33
  have h3 : x = 4785831 := by omega
  rcases h3 with rfl
  · refine g_aload_n (n := 0) rfl rfl ?_
    refine g_getf (v := vI (m.1 33)) rfl (kl_61 _) rfl ?_
    refine g_aload_n (n := 0) rfl rfl ?_
    refine g_getf (v := vI (m.1 32)) rfl (kl_61 _) rfl ?_
    refine g_isub rfl ?_
    refine g_iload_n (n := 3) rfl rfl ?_
    refine g_icmp_ne (by omega) (by omega) (by decide) (by decide) rfl ?_ ?_
    · intro kk4
      refine g_iconst rfl ?_
      refine g_istore (n := 4) (lo' := [(0, vR 61), (1, vL 4785831), (3, vI 5)]) rfl rfl ?_
      refine g_iconst rfl ?_
      refine g_istore (n := 5) (lo' := [(4, vI 0), (0, vR 61), (1, vL 4785831), (3, vI 5)]) rfl rfl ?_
      refine g_iload (n := 4) rfl rfl ?_
      refine g_if_eq (by decide) (by decide) rfl ?_ ?_
      · intro kk5
        refine g_iload (n := 4) rfl rfl ?_
        refine g_zret rfl rfl (by omega) ?_
        exact ⟨_, _, rfl, rfl, Or.inr ⟨rfl, by unfold wd11; omega⟩⟩
      · intro kk6
        exfalso; omega
    · intro kk7
      refine g_iconst rfl ?_
      refine g_goto rfl ?_
      refine g_istore (n := 4) (lo' := [(0, vR 61), (1, vL 4785831), (3, vI 5)]) rfl rfl ?_
      refine g_iconst rfl ?_
      refine g_istore (n := 5) (lo' := [(4, vI 1), (0, vR 61), (1, vL 4785831), (3, vI 5)]) rfl rfl ?_
      refine g_iload (n := 4) rfl rfl ?_
      refine g_if_eq (by decide) (by decide) rfl ?_ ?_
      · intro kk8
        exfalso; omega
      · intro kk9
        refine g_iload (n := 5) rfl rfl ?_
        refine g_iload_n (n := 3) rfl rfl ?_
        refine g_icmp_ge (by decide) (by decide) (by decide) (by decide) rfl ?_ ?_
        · intro kk10
          exfalso; omega
        · intro kk11
          refine g_aload_n (n := 0) rfl rfl ?_
          refine g_getf (v := vR 64) rfl (kl_61 _) rfl ?_
          refine g_aload_n (n := 0) rfl rfl ?_
          refine g_getf (v := vI (m.1 32)) rfl (kl_61 _) rfl ?_
          refine g_iload (n := 5) rfl rfl ?_
          refine g_iaddE (z := m.1 32) (by omega) rfl ?_
          have h12 : 0 ≤ m.2.1 64 (m.1 32) ∧ m.2.1 64 (m.1 32) ≤ 255 := hm.2 64 (m.1 32) (by omega) (show m.1 32 < (200 : Int) by omega)
          refine g_iald (f := m.2.1 64) rfl (kl_64 _) (by decide) (by omega) (by omega) ?_
          refine g_bipush (by decide) rfl ?_
          refine g_lload_n (n := 1) rfl rfl ?_
          refine g_iconst rfl ?_
          refine g_iload (n := 5) rfl rfl ?_
          refine g_imulE (z := 0) (by decide) rfl ?_
          refine g_lshr rfl ?_
          intro z13 h14 h15 h16
          have h17 : z13 = 4785831 := h14.trans (by decide +kernel)
          subst h17
          refine g_ldc2 (x := 31) (by decide) rfl ?_
          refine g_land rfl ?_
          intro z18 h19 h20 h21
          have h22 : z18 = 7 := h19.trans (by decide +kernel)
          subst h22
          refine g_l2i rfl ?_
          refine g_iaddE (z := 103) (by decide) rfl ?_
          refine g_icmp_ne (by omega) (by omega) (by decide) (by decide) rfl ?_ ?_
          · intro kk23
            refine g_iconst rfl ?_
            refine g_istore (n := 4) (lo' := [(5, vI 0), (0, vR 61), (1, vL 4785831), (3, vI 5)]) rfl rfl ?_
            refine g_iincE (z := 1) (by decide) (n := 5) (lo' := [(4, vI 0), (0, vR 61), (1, vL 4785831), (3, vI 5)]) rfl rfl rfl ?_
            refine g_goto rfl ?_
            refine g_iload (n := 4) rfl rfl ?_
            refine g_if_eq (by decide) (by decide) rfl ?_ ?_
            · intro kk24
              refine g_iload (n := 4) rfl rfl ?_
              refine g_zret rfl rfl (by omega) ?_
              exact ⟨_, _, rfl, rfl, Or.inr ⟨rfl, by unfold wd11; omega⟩⟩
            · intro kk25
              exfalso; omega
          · intro kk26
            refine g_iconst rfl ?_
            refine g_goto rfl ?_
            refine g_istore (n := 4) (lo' := [(5, vI 0), (0, vR 61), (1, vL 4785831), (3, vI 5)]) rfl rfl ?_
            refine g_iincE (z := 1) (by decide) (n := 5) (lo' := [(4, vI 1), (0, vR 61), (1, vL 4785831), (3, vI 5)]) rfl rfl rfl ?_
            refine g_goto rfl ?_
            refine g_iload (n := 4) rfl rfl ?_
            refine g_if_eq (by decide) (by decide) rfl ?_ ?_
            · intro kk27
              exfalso; omega
            · intro kk28
              refine g_iload (n := 5) rfl rfl ?_
              refine g_iload_n (n := 3) rfl rfl ?_
              refine g_icmp_ge (by decide) (by decide) (by decide) (by decide) rfl ?_ ?_
              · intro kk29
                exfalso; omega
              · intro kk30
                refine g_aload_n (n := 0) rfl rfl ?_
                refine g_getf (v := vR 64) rfl (kl_61 _) rfl ?_
                refine g_aload_n (n := 0) rfl rfl ?_
                refine g_getf (v := vI (m.1 32)) rfl (kl_61 _) rfl ?_
                refine g_iload (n := 5) rfl rfl ?_
                refine g_iadd rfl ?_
                have h31 : 0 ≤ m.2.1 64 (m.1 32 + 1) ∧ m.2.1 64 (m.1 32 + 1) ≤ 255 := hm.2 64 (m.1 32 + 1) (by omega) (show (m.1 32 + 1) < (200 : Int) by omega)
                refine g_iald (f := m.2.1 64) rfl (kl_64 _) (by decide) (by omega) (by omega) ?_
                refine g_bipush (by decide) rfl ?_
                refine g_lload_n (n := 1) rfl rfl ?_
                refine g_iconst rfl ?_
                refine g_iload (n := 5) rfl rfl ?_
                refine g_imulE (z := 5) (by decide) rfl ?_
                refine g_lshr rfl ?_
                intro z32 h33 h34 h35
                have h36 : z32 = 149557 := h33.trans (by decide +kernel)
                subst h36
                refine g_ldc2 (x := 31) (by decide) rfl ?_
                refine g_land rfl ?_
                intro z37 h38 h39 h40
                have h41 : z37 = 21 := h38.trans (by decide +kernel)
                subst h41
                refine g_l2i rfl ?_
                refine g_iaddE (z := 117) (by decide) rfl ?_
                refine g_icmp_ne (by omega) (by omega) (by decide) (by decide) rfl ?_ ?_
                · intro kk42
                  refine g_iconst rfl ?_
                  refine g_istore (n := 4) (lo' := [(5, vI 1), (0, vR 61), (1, vL 4785831), (3, vI 5)]) rfl rfl ?_
                  refine g_iincE (z := 2) (by decide) (n := 5) (lo' := [(4, vI 0), (0, vR 61), (1, vL 4785831), (3, vI 5)]) rfl rfl rfl ?_
                  refine g_goto rfl ?_
                  refine g_iload (n := 4) rfl rfl ?_
                  refine g_if_eq (by decide) (by decide) rfl ?_ ?_
                  · intro kk43
                    refine g_iload (n := 4) rfl rfl ?_
                    refine g_zret rfl rfl (by omega) ?_
                    exact ⟨_, _, rfl, rfl, Or.inr ⟨rfl, by unfold wd11; omega⟩⟩
                  · intro kk44
                    exfalso; omega
                · intro kk45
                  refine g_iconst rfl ?_
                  refine g_goto rfl ?_
                  refine g_istore (n := 4) (lo' := [(5, vI 1), (0, vR 61), (1, vL 4785831), (3, vI 5)]) rfl rfl ?_
                  refine g_iincE (z := 2) (by decide) (n := 5) (lo' := [(4, vI 1), (0, vR 61), (1, vL 4785831), (3, vI 5)]) rfl rfl rfl ?_
                  refine g_goto rfl ?_
                  refine g_iload (n := 4) rfl rfl ?_
                  refine g_if_eq (by decide) (by decide) rfl ?_ ?_
                  · intro kk46
                    exfalso; omega
                  · intro kk47
                    refine g_iload (n := 5) rfl rfl ?_
                    refine g_iload_n (n := 3) rfl rfl ?_
                    refine g_icmp_ge (by decide) (by decide) (by decide) (by decide) rfl ?_ ?_
                    · intro kk48
                      exfalso; omega
                    · intro kk49
                      refine g_aload_n (n := 0) rfl rfl ?_
                      refine g_getf (v := vR 64) rfl (kl_61 _) rfl ?_
                      refine g_aload_n (n := 0) rfl rfl ?_
                      refine g_getf (v := vI (m.1 32)) rfl (kl_61 _) rfl ?_
                      refine g_iload (n := 5) rfl rfl ?_
                      refine g_iadd rfl ?_
                      have h50 : 0 ≤ m.2.1 64 (m.1 32 + 2) ∧ m.2.1 64 (m.1 32 + 2) ≤ 255 := hm.2 64 (m.1 32 + 2) (by omega) (show (m.1 32 + 2) < (200 : Int) by omega)
                      refine g_iald (f := m.2.1 64) rfl (kl_64 _) (by decide) (by omega) (by omega) ?_
                      refine g_bipush (by decide) rfl ?_
                      refine g_lload_n (n := 1) rfl rfl ?_
                      refine g_iconst rfl ?_
                      refine g_iload (n := 5) rfl rfl ?_
                      refine g_imulE (z := 10) (by decide) rfl ?_
                      refine g_lshr rfl ?_
                      intro z51 h52 h53 h54
                      have h55 : z51 = 4673 := h52.trans (by decide +kernel)
                      subst h55
                      refine g_ldc2 (x := 31) (by decide) rfl ?_
                      refine g_land rfl ?_
                      intro z56 h57 h58 h59
                      have h60 : z56 = 1 := h57.trans (by decide +kernel)
                      subst h60
                      refine g_l2i rfl ?_
                      refine g_iaddE (z := 97) (by decide) rfl ?_
                      refine g_icmp_ne (by omega) (by omega) (by decide) (by decide) rfl ?_ ?_
                      · intro kk61
                        refine g_iconst rfl ?_
                        refine g_istore (n := 4) (lo' := [(5, vI 2), (0, vR 61), (1, vL 4785831), (3, vI 5)]) rfl rfl ?_
                        refine g_iincE (z := 3) (by decide) (n := 5) (lo' := [(4, vI 0), (0, vR 61), (1, vL 4785831), (3, vI 5)]) rfl rfl rfl ?_
                        refine g_goto rfl ?_
                        refine g_iload (n := 4) rfl rfl ?_
                        refine g_if_eq (by decide) (by decide) rfl ?_ ?_
                        · intro kk62
                          refine g_iload (n := 4) rfl rfl ?_
                          refine g_zret rfl rfl (by omega) ?_
                          exact ⟨_, _, rfl, rfl, Or.inr ⟨rfl, by unfold wd11; omega⟩⟩
                        · intro kk63
                          exfalso; omega
                      · intro kk64
                        refine g_iconst rfl ?_
                        refine g_goto rfl ?_
                        refine g_istore (n := 4) (lo' := [(5, vI 2), (0, vR 61), (1, vL 4785831), (3, vI 5)]) rfl rfl ?_
                        refine g_iincE (z := 3) (by decide) (n := 5) (lo' := [(4, vI 1), (0, vR 61), (1, vL 4785831), (3, vI 5)]) rfl rfl rfl ?_
                        refine g_goto rfl ?_
                        refine g_iload (n := 4) rfl rfl ?_
                        refine g_if_eq (by decide) (by decide) rfl ?_ ?_
                        · intro kk65
                          exfalso; omega
                        · intro kk66
                          refine g_iload (n := 5) rfl rfl ?_
                          refine g_iload_n (n := 3) rfl rfl ?_
                          refine g_icmp_ge (by decide) (by decide) (by decide) (by decide) rfl ?_ ?_
                          · intro kk67
                            exfalso; omega
                          · intro kk68
                            refine g_aload_n (n := 0) rfl rfl ?_
                            refine g_getf (v := vR 64) rfl (kl_61 _) rfl ?_
                            refine g_aload_n (n := 0) rfl rfl ?_
                            refine g_getf (v := vI (m.1 32)) rfl (kl_61 _) rfl ?_
                            refine g_iload (n := 5) rfl rfl ?_
                            refine g_iadd rfl ?_
                            have h69 : 0 ≤ m.2.1 64 (m.1 32 + 3) ∧ m.2.1 64 (m.1 32 + 3) ≤ 255 := hm.2 64 (m.1 32 + 3) (by omega) (show (m.1 32 + 3) < (200 : Int) by omega)
                            refine g_iald (f := m.2.1 64) rfl (kl_64 _) (by decide) (by omega) (by omega) ?_
                            refine g_bipush (by decide) rfl ?_
                            refine g_lload_n (n := 1) rfl rfl ?_
                            refine g_iconst rfl ?_
                            refine g_iload (n := 5) rfl rfl ?_
                            refine g_imulE (z := 15) (by decide) rfl ?_
                            refine g_lshr rfl ?_
                            intro z70 h71 h72 h73
                            have h74 : z70 = 146 := h71.trans (by decide +kernel)
                            subst h74
                            refine g_ldc2 (x := 31) (by decide) rfl ?_
                            refine g_land rfl ?_
                            intro z75 h76 h77 h78
                            have h79 : z75 = 18 := h76.trans (by decide +kernel)
                            subst h79
                            refine g_l2i rfl ?_
                            refine g_iaddE (z := 114) (by decide) rfl ?_
                            refine g_icmp_ne (by omega) (by omega) (by decide) (by decide) rfl ?_ ?_
                            · intro kk80
                              refine g_iconst rfl ?_
                              refine g_istore (n := 4) (lo' := [(5, vI 3), (0, vR 61), (1, vL 4785831), (3, vI 5)]) rfl rfl ?_
                              refine g_iincE (z := 4) (by decide) (n := 5) (lo' := [(4, vI 0), (0, vR 61), (1, vL 4785831), (3, vI 5)]) rfl rfl rfl ?_
                              refine g_goto rfl ?_
                              refine g_iload (n := 4) rfl rfl ?_
                              refine g_if_eq (by decide) (by decide) rfl ?_ ?_
                              · intro kk81
                                refine g_iload (n := 4) rfl rfl ?_
                                refine g_zret rfl rfl (by omega) ?_
                                exact ⟨_, _, rfl, rfl, Or.inr ⟨rfl, by unfold wd11; omega⟩⟩
                              · intro kk82
                                exfalso; omega
                            · intro kk83
                              refine g_iconst rfl ?_
                              refine g_goto rfl ?_
                              refine g_istore (n := 4) (lo' := [(5, vI 3), (0, vR 61), (1, vL 4785831), (3, vI 5)]) rfl rfl ?_
                              refine g_iincE (z := 4) (by decide) (n := 5) (lo' := [(4, vI 1), (0, vR 61), (1, vL 4785831), (3, vI 5)]) rfl rfl rfl ?_
                              refine g_goto rfl ?_
                              refine g_iload (n := 4) rfl rfl ?_
                              refine g_if_eq (by decide) (by decide) rfl ?_ ?_
                              · intro kk84
                                exfalso; omega
                              · intro kk85
                                refine g_iload (n := 5) rfl rfl ?_
                                refine g_iload_n (n := 3) rfl rfl ?_
                                refine g_icmp_ge (by decide) (by decide) (by decide) (by decide) rfl ?_ ?_
                                · intro kk86
                                  exfalso; omega
                                · intro kk87
                                  refine g_aload_n (n := 0) rfl rfl ?_
                                  refine g_getf (v := vR 64) rfl (kl_61 _) rfl ?_
                                  refine g_aload_n (n := 0) rfl rfl ?_
                                  refine g_getf (v := vI (m.1 32)) rfl (kl_61 _) rfl ?_
                                  refine g_iload (n := 5) rfl rfl ?_
                                  refine g_iadd rfl ?_
                                  have h88 : 0 ≤ m.2.1 64 (m.1 32 + 4) ∧ m.2.1 64 (m.1 32 + 4) ≤ 255 := hm.2 64 (m.1 32 + 4) (by omega) (show (m.1 32 + 4) < (200 : Int) by omega)
                                  refine g_iald (f := m.2.1 64) rfl (kl_64 _) (by decide) (by omega) (by omega) ?_
                                  refine g_bipush (by decide) rfl ?_
                                  refine g_lload_n (n := 1) rfl rfl ?_
                                  refine g_iconst rfl ?_
                                  refine g_iload (n := 5) rfl rfl ?_
                                  refine g_imulE (z := 20) (by decide) rfl ?_
                                  refine g_lshr rfl ?_
                                  intro z89 h90 h91 h92
                                  have h93 : z89 = 4 := h90.trans (by decide +kernel)
                                  subst h93
                                  refine g_ldc2 (x := 31) (by decide) rfl ?_
                                  refine g_land rfl ?_
                                  intro z94 h95 h96 h97
                                  have h98 : z94 = 4 := h95.trans (by decide +kernel)
                                  subst h98
                                  refine g_l2i rfl ?_
                                  refine g_iaddE (z := 100) (by decide) rfl ?_
                                  refine g_icmp_ne (by omega) (by omega) (by decide) (by decide) rfl ?_ ?_
                                  · intro kk99
                                    refine g_iconst rfl ?_
                                    refine g_istore (n := 4) (lo' := [(5, vI 4), (0, vR 61), (1, vL 4785831), (3, vI 5)]) rfl rfl ?_
                                    refine g_iincE (z := 5) (by decide) (n := 5) (lo' := [(4, vI 0), (0, vR 61), (1, vL 4785831), (3, vI 5)]) rfl rfl rfl ?_
                                    refine g_goto rfl ?_
                                    refine g_iload (n := 4) rfl rfl ?_
                                    refine g_if_eq (by decide) (by decide) rfl ?_ ?_
                                    · intro kk100
                                      refine g_iload (n := 4) rfl rfl ?_
                                      refine g_zret rfl rfl (by omega) ?_
                                      exact ⟨_, _, rfl, rfl, Or.inr ⟨rfl, by unfold wd11; omega⟩⟩
                                    · intro kk101
                                      exfalso; omega
                                  · intro kk102
                                    refine g_iconst rfl ?_
                                    refine g_goto rfl ?_
                                    refine g_istore (n := 4) (lo' := [(5, vI 4), (0, vR 61), (1, vL 4785831), (3, vI 5)]) rfl rfl ?_
                                    refine g_iincE (z := 5) (by decide) (n := 5) (lo' := [(4, vI 1), (0, vR 61), (1, vL 4785831), (3, vI 5)]) rfl rfl rfl ?_
                                    refine g_goto rfl ?_
                                    refine g_iload (n := 4) rfl rfl ?_
                                    refine g_if_eq (by decide) (by decide) rfl ?_ ?_
                                    · intro kk103
                                      exfalso; omega
                                    · intro kk104
                                      refine g_iload (n := 5) rfl rfl ?_
                                      refine g_iload_n (n := 3) rfl rfl ?_
                                      refine g_icmp_ge (by decide) (by decide) (by decide) (by decide) rfl ?_ ?_
                                      · intro kk105
                                        refine g_iload (n := 4) rfl rfl ?_
                                        refine g_zret rfl rfl (by omega) ?_
                                        exact ⟨_, _, rfl, rfl, Or.inl ⟨rfl, by unfold wd11; omega⟩⟩
                                      · intro kk106
                                        exfalso; omega
theorem d_doorWord {V : cg_V} {d q : Nat} (hd : 1 ≤ d) (hq : 25 ≤ q) {m : kM} (hm : kI m) : cg_S V d q mX10_doorWord [vR 61] (kl m) (R_I (fun z m' => (m = m') ∧ ((0 ≤ z ∧ z ≤ 5 ∧ WD (m.2.1 64) (m.1 32) (m.1 33) = z) ∨ (z = -1 ∧ ¬ wd0 (m.2.1 64) (m.1 32) (m.1 33) ∧ ¬ wd1 (m.2.1 64) (m.1 32) (m.1 33) ∧ ¬ wd2 (m.2.1 64) (m.1 32) (m.1 33) ∧ ¬ wd3 (m.2.1 64) (m.1 32) (m.1 33) ∧ ¬ wd4 (m.2.1 64) (m.1 32) (m.1 33) ∧ ¬ wd5 (m.2.1 64) (m.1 32) (m.1 33))) ∧ (-1 ≤ z) ∧ (z ≤ 5))) := by
  refine cg_of (List.mem_of_getElem? (show ae_MT[127]? = some mX10_doorWord from rfl)) (Nat.le_of_ble_eq_true rfl) ?_
  show cg_G V mX10_doorWord d q _ 0 [(0, vR 61)] [] (kl m) 0 0
  have h1 : 0 ≤ m.1 32 ∧ m.1 32 ≤ 200 := hm.1 32
  have h2 : 0 ≤ m.1 33 ∧ m.1 33 ≤ 200 := hm.1 33
  refine g_aload_n (n := 0) rfl rfl ?_
  refine g_ldc2 (x := 14976400) (by decide) rfl ?_
  refine g_iconst rfl ?_
  refine c_vI (i := 61) (ps := [vI 5, vL 14976400]) (r := []) (as := [vR 61, vL 14976400, vI 5]) (cs' := 0) (sl' := 0) rfl rfl rfl rfl rfl rfl (kl_61 _) (d_isWord_0 (d := d - 1) (q := q - (6 + 19)) (by omega) (by omega) hm (x := 14976400) (show 14976400 ≤ 14976400 ∧ 14976400 ≤ 14976400 by omega)) (by omega) (show 6 + 19 ≤ q by omega) (Nat.le_of_ble_eq_true rfl) (Nat.le_of_ble_eq_true rfl) rfl rfl rfl ?_
  rintro z3 m4 ⟨rfl, p6⟩
  refine g_if_eq (by omega) (by omega) rfl ?_ ?_
  · intro kk7
    refine g_aload_n (n := 0) rfl rfl ?_
    refine g_ldc2 (x := 840668623) (by decide) rfl ?_
    refine g_bipush (by decide) rfl ?_
    refine c_vI (i := 61) (ps := [vI 6, vL 840668623]) (r := []) (as := [vR 61, vL 840668623, vI 6]) (cs' := 0) (sl' := 0) rfl rfl rfl rfl rfl rfl (kl_61 _) (d_isWord_1 (d := d - 1) (q := q - (6 + 19)) (by omega) (by omega) hm (x := 840668623) (show 840668623 ≤ 840668623 ∧ 840668623 ≤ 840668623 by omega)) (by omega) (show 6 + 19 ≤ q by omega) (Nat.le_of_ble_eq_true rfl) (Nat.le_of_ble_eq_true rfl) rfl rfl rfl ?_
    rintro z8 m9 ⟨rfl, p11⟩
    refine g_if_eq (by omega) (by omega) rfl ?_ ?_
    · intro kk12
      refine g_aload_n (n := 0) rfl rfl ?_
      refine g_ldc2 (x := 16116) (by decide) rfl ?_
      refine g_iconst rfl ?_
      refine c_vI (i := 61) (ps := [vI 3, vL 16116]) (r := []) (as := [vR 61, vL 16116, vI 3]) (cs' := 0) (sl' := 0) rfl rfl rfl rfl rfl rfl (kl_61 _) (d_isWord_2 (d := d - 1) (q := q - (6 + 19)) (by omega) (by omega) hm (x := 16116) (show 16116 ≤ 16116 ∧ 16116 ≤ 16116 by omega)) (by omega) (show 6 + 19 ≤ q by omega) (Nat.le_of_ble_eq_true rfl) (Nat.le_of_ble_eq_true rfl) rfl rfl rfl ?_
      rintro z13 m14 ⟨rfl, p16⟩
      refine g_if_eq (by omega) (by omega) rfl ?_ ?_
      · intro kk17
        refine g_aload_n (n := 0) rfl rfl ?_
        refine g_ldc2 (x := 4471366839) (by decide) rfl ?_
        refine g_bipush (by decide) rfl ?_
        refine c_vI (i := 61) (ps := [vI 7, vL 4471366839]) (r := []) (as := [vR 61, vL 4471366839, vI 7]) (cs' := 0) (sl' := 0) rfl rfl rfl rfl rfl rfl (kl_61 _) (d_isWord_3 (d := d - 1) (q := q - (6 + 19)) (by omega) (by omega) hm (x := 4471366839) (show 4471366839 ≤ 4471366839 ∧ 4471366839 ≤ 4471366839 by omega)) (by omega) (show 6 + 19 ≤ q by omega) (Nat.le_of_ble_eq_true rfl) (Nat.le_of_ble_eq_true rfl) rfl rfl rfl ?_
        rintro z18 m19 ⟨rfl, p21⟩
        refine g_if_eq (by omega) (by omega) rfl ?_ ?_
        · intro kk22
          refine g_aload_n (n := 0) rfl rfl ?_
          refine g_ldc2 (x := 255864186515) (by decide) rfl ?_
          refine g_bipush (by decide) rfl ?_
          refine c_vI (i := 61) (ps := [vI 8, vL 255864186515]) (r := []) (as := [vR 61, vL 255864186515, vI 8]) (cs' := 0) (sl' := 0) rfl rfl rfl rfl rfl rfl (kl_61 _) (d_isWord_4 (d := d - 1) (q := q - (6 + 19)) (by omega) (by omega) hm (x := 255864186515) (show 255864186515 ≤ 255864186515 ∧ 255864186515 ≤ 255864186515 by omega)) (by omega) (show 6 + 19 ≤ q by omega) (Nat.le_of_ble_eq_true rfl) (Nat.le_of_ble_eq_true rfl) rfl rfl rfl ?_
          rintro z23 m24 ⟨rfl, p26⟩
          refine g_if_eq (by omega) (by omega) rfl ?_ ?_
          · intro kk27
            refine g_aload_n (n := 0) rfl rfl ?_
            refine g_ldc2 (x := 5877798) (by decide) rfl ?_
            refine g_iconst rfl ?_
            refine c_vI (i := 61) (ps := [vI 5, vL 5877798]) (r := []) (as := [vR 61, vL 5877798, vI 5]) (cs' := 0) (sl' := 0) rfl rfl rfl rfl rfl rfl (kl_61 _) (d_isWord_5 (d := d - 1) (q := q - (6 + 19)) (by omega) (by omega) hm (x := 5877798) (show 5877798 ≤ 5877798 ∧ 5877798 ≤ 5877798 by omega)) (by omega) (show 6 + 19 ≤ q by omega) (Nat.le_of_ble_eq_true rfl) (Nat.le_of_ble_eq_true rfl) rfl rfl rfl ?_
            rintro z28 m29 ⟨rfl, p31⟩
            refine g_if_eq (by omega) (by omega) rfl ?_ ?_
            · intro kk32
              refine g_iconst rfl ?_
              refine g_iret rfl rfl ?_
              exact ⟨_, _, rfl, rfl, Or.inr ⟨rfl, (p6.resolve_left (fun h => by omega)).2, (p11.resolve_left (fun h => by omega)).2, (p16.resolve_left (fun h => by omega)).2, (p21.resolve_left (fun h => by omega)).2, (p26.resolve_left (fun h => by omega)).2, (p31.resolve_left (fun h => by omega)).2⟩, by omega, by omega⟩
            · intro kk33
              refine g_iconst rfl ?_
              refine g_goto rfl ?_
              refine g_iret rfl rfl ?_
              exact ⟨_, _, rfl, rfl, Or.inl ⟨by omega, by omega, WD_5 ((p6.resolve_left (fun h => by omega)).2) ((p11.resolve_left (fun h => by omega)).2) ((p16.resolve_left (fun h => by omega)).2) ((p21.resolve_left (fun h => by omega)).2) ((p26.resolve_left (fun h => by omega)).2) (p31.resolve_right (fun h => by omega)).2⟩, by omega, by omega⟩
          · intro kk34
            refine g_iconst rfl ?_
            refine g_goto rfl ?_
            refine g_iret rfl rfl ?_
            exact ⟨_, _, rfl, rfl, Or.inl ⟨by omega, by omega, WD_4 ((p6.resolve_left (fun h => by omega)).2) ((p11.resolve_left (fun h => by omega)).2) ((p16.resolve_left (fun h => by omega)).2) ((p21.resolve_left (fun h => by omega)).2) (p26.resolve_right (fun h => by omega)).2⟩, by omega, by omega⟩
        · intro kk35
          refine g_iconst rfl ?_
          refine g_goto rfl ?_
          refine g_iret rfl rfl ?_
          exact ⟨_, _, rfl, rfl, Or.inl ⟨by omega, by omega, WD_3 ((p6.resolve_left (fun h => by omega)).2) ((p11.resolve_left (fun h => by omega)).2) ((p16.resolve_left (fun h => by omega)).2) (p21.resolve_right (fun h => by omega)).2⟩, by omega, by omega⟩
      · intro kk36
        refine g_iconst rfl ?_
        refine g_goto rfl ?_
        refine g_iret rfl rfl ?_
        exact ⟨_, _, rfl, rfl, Or.inl ⟨by omega, by omega, WD_2 ((p6.resolve_left (fun h => by omega)).2) ((p11.resolve_left (fun h => by omega)).2) (p16.resolve_right (fun h => by omega)).2⟩, by omega, by omega⟩
    · intro kk37
      refine g_iconst rfl ?_
      refine g_goto rfl ?_
      refine g_iret rfl rfl ?_
      exact ⟨_, _, rfl, rfl, Or.inl ⟨by omega, by omega, WD_1 ((p6.resolve_left (fun h => by omega)).2) (p11.resolve_right (fun h => by omega)).2⟩, by omega, by omega⟩
  · intro kk38
    refine g_iconst rfl ?_
    refine g_goto rfl ?_
    refine g_iret rfl rfl ?_
    exact ⟨_, _, rfl, rfl, Or.inl ⟨by omega, by omega, WD_0  (p6.resolve_right (fun h => by omega)).2⟩, by omega, by omega⟩
theorem d_wordOf {V : cg_V} {d q : Nat} (hd : 2 ≤ d) (hq : 45 ≤ q) {m : kM} (hm : kI m) : cg_S V d q mX10_wordOf [vR 61] (kl m) (R_I (fun z m' => (m = m') ∧ ((z = -1 ∧ WD (m.2.1 64) (m.1 32) (m.1 33) = -1) ∨ (z = 0 ∧ WD (m.2.1 64) (m.1 32) (m.1 33) = 6) ∨ (1 ≤ z ∧ z ≤ 6 ∧ WD (m.2.1 64) (m.1 32) (m.1 33) = z - 1) ∨ (7 ≤ z ∧ z ≤ 11 ∧ WD (m.2.1 64) (m.1 32) (m.1 33) = z)) ∧ (-1 ≤ z) ∧ (z ≤ 11))) := by
  refine cg_of (List.mem_of_getElem? (show ae_MT[128]? = some mX10_wordOf from rfl)) (Nat.le_of_ble_eq_true rfl) ?_
  show cg_G V mX10_wordOf d q _ 0 [(0, vR 61)] [] (kl m) 0 0
  have h1 : 0 ≤ m.1 32 ∧ m.1 32 ≤ 200 := hm.1 32
  have h2 : 0 ≤ m.1 33 ∧ m.1 33 ≤ 200 := hm.1 33
  refine g_aload_n (n := 0) rfl rfl ?_
  refine c_vI (i := 61) (ps := []) (r := []) (as := [vR 61]) (cs' := 0) (sl' := 0) rfl rfl rfl rfl rfl rfl (kl_61 _) (d_doorWord (d := d - 1) (q := q - (1 + 19)) (by omega) (by omega) hm  ) (by omega) (show 1 + 19 ≤ q by omega) (Nat.le_of_ble_eq_true rfl) (Nat.le_of_ble_eq_true rfl) rfl rfl rfl ?_
  rintro z3 m4 ⟨rfl, p6, p7, p8⟩
  refine g_istore_n (n := 1) (lo' := [(0, vR 61)]) rfl rfl ?_
  refine g_iload_n (n := 1) rfl rfl ?_
  refine g_iconst rfl ?_
  refine g_icmp_eq (by omega) (by omega) (by decide) (by decide) rfl ?_ ?_
  · intro kk9
    refine g_aload_n (n := 0) rfl rfl ?_
    refine g_ldc2 (x := 408615) (by decide) rfl ?_
    refine g_iconst rfl ?_
    refine c_vI (i := 61) (ps := [vI 4, vL 408615]) (r := []) (as := [vR 61, vL 408615, vI 4]) (cs' := 0) (sl' := 0) rfl rfl rfl rfl rfl rfl (kl_61 _) (d_isWord_6 (d := d - 1) (q := q - (6 + 19)) (by omega) (by omega) hm (x := 408615) (show 408615 ≤ 408615 ∧ 408615 ≤ 408615 by omega)) (by omega) (show 6 + 19 ≤ q by omega) (Nat.le_of_ble_eq_true rfl) (Nat.le_of_ble_eq_true rfl) rfl rfl rfl ?_
    rintro z10 m11 ⟨rfl, p13⟩
    refine g_if_eq (by omega) (by omega) rfl ?_ ?_
    · intro kk14
      refine g_aload_n (n := 0) rfl rfl ?_
      refine g_ldc2 (x := 15208665387) (by decide) rfl ?_
      refine g_bipush (by decide) rfl ?_
      refine c_vI (i := 61) (ps := [vI 7, vL 15208665387]) (r := []) (as := [vR 61, vL 15208665387, vI 7]) (cs' := 0) (sl' := 0) rfl rfl rfl rfl rfl rfl (kl_61 _) (d_isWord_7 (d := d - 1) (q := q - (6 + 19)) (by omega) (by omega) hm (x := 15208665387) (show 15208665387 ≤ 15208665387 ∧ 15208665387 ≤ 15208665387 by omega)) (by omega) (show 6 + 19 ≤ q by omega) (Nat.le_of_ble_eq_true rfl) (Nat.le_of_ble_eq_true rfl) rfl rfl rfl ?_
      rintro z15 m16 ⟨rfl, p18⟩
      refine g_if_eq (by omega) (by omega) rfl ?_ ?_
      · intro kk19
        refine g_aload_n (n := 0) rfl rfl ?_
        refine g_ldc2 (x := 857979560) (by decide) rfl ?_
        refine g_bipush (by decide) rfl ?_
        refine c_vI (i := 61) (ps := [vI 6, vL 857979560]) (r := []) (as := [vR 61, vL 857979560, vI 6]) (cs' := 0) (sl' := 0) rfl rfl rfl rfl rfl rfl (kl_61 _) (d_isWord_8 (d := d - 1) (q := q - (6 + 19)) (by omega) (by omega) hm (x := 857979560) (show 857979560 ≤ 857979560 ∧ 857979560 ≤ 857979560 by omega)) (by omega) (show 6 + 19 ≤ q by omega) (Nat.le_of_ble_eq_true rfl) (Nat.le_of_ble_eq_true rfl) rfl rfl rfl ?_
        rintro z20 m21 ⟨rfl, p23⟩
        refine g_if_eq (by omega) (by omega) rfl ?_ ?_
        · intro kk24
          refine g_aload_n (n := 0) rfl rfl ?_
          refine g_ldc2 (x := 525811) (by decide) rfl ?_
          refine g_iconst rfl ?_
          refine c_vI (i := 61) (ps := [vI 4, vL 525811]) (r := []) (as := [vR 61, vL 525811, vI 4]) (cs' := 0) (sl' := 0) rfl rfl rfl rfl rfl rfl (kl_61 _) (d_isWord_9 (d := d - 1) (q := q - (6 + 19)) (by omega) (by omega) hm (x := 525811) (show 525811 ≤ 525811 ∧ 525811 ≤ 525811 by omega)) (by omega) (show 6 + 19 ≤ q by omega) (Nat.le_of_ble_eq_true rfl) (Nat.le_of_ble_eq_true rfl) rfl rfl rfl ?_
          rintro z25 m26 ⟨rfl, p28⟩
          refine g_if_eq (by omega) (by omega) rfl ?_ ?_
          · intro kk29
            refine g_aload_n (n := 0) rfl rfl ?_
            refine g_ldc2 (x := 25771) (by decide) rfl ?_
            refine g_iconst rfl ?_
            refine c_vI (i := 61) (ps := [vI 3, vL 25771]) (r := []) (as := [vR 61, vL 25771, vI 3]) (cs' := 0) (sl' := 0) rfl rfl rfl rfl rfl rfl (kl_61 _) (d_isWord_10 (d := d - 1) (q := q - (6 + 19)) (by omega) (by omega) hm (x := 25771) (show 25771 ≤ 25771 ∧ 25771 ≤ 25771 by omega)) (by omega) (show 6 + 19 ≤ q by omega) (Nat.le_of_ble_eq_true rfl) (Nat.le_of_ble_eq_true rfl) rfl rfl rfl ?_
            rintro z30 m31 ⟨rfl, p33⟩
            refine g_if_eq (by omega) (by omega) rfl ?_ ?_
            · intro kk34
              refine g_aload_n (n := 0) rfl rfl ?_
              refine g_ldc2 (x := 4785831) (by decide) rfl ?_
              refine g_iconst rfl ?_
              refine c_vI (i := 61) (ps := [vI 5, vL 4785831]) (r := []) (as := [vR 61, vL 4785831, vI 5]) (cs' := 0) (sl' := 0) rfl rfl rfl rfl rfl rfl (kl_61 _) (d_isWord_11 (d := d - 1) (q := q - (6 + 19)) (by omega) (by omega) hm (x := 4785831) (show 4785831 ≤ 4785831 ∧ 4785831 ≤ 4785831 by omega)) (by omega) (show 6 + 19 ≤ q by omega) (Nat.le_of_ble_eq_true rfl) (Nat.le_of_ble_eq_true rfl) rfl rfl rfl ?_
              rintro z35 m36 ⟨rfl, p38⟩
              refine g_if_eq (by omega) (by omega) rfl ?_ ?_
              · intro kk39
                refine g_iconst rfl ?_
                refine g_iret rfl rfl ?_
                obtain ⟨-, n0, n1, n2, n3, n4, n5⟩ := p6.resolve_left (fun h => by omega)
                exact ⟨_, _, rfl, rfl, Or.inl ⟨rfl, WD_no (n0) (n1) (n2) (n3) (n4) (n5) ((p13.resolve_left (fun h => by omega)).2) ((p18.resolve_left (fun h => by omega)).2) ((p23.resolve_left (fun h => by omega)).2) ((p28.resolve_left (fun h => by omega)).2) ((p33.resolve_left (fun h => by omega)).2) ((p38.resolve_left (fun h => by omega)).2)⟩, by omega, by omega⟩
              · intro kk40
                refine g_bipush (by decide) rfl ?_
                refine g_goto rfl ?_
                refine g_iret rfl rfl ?_
                obtain ⟨-, n0, n1, n2, n3, n4, n5⟩ := p6.resolve_left (fun h => by omega)
                exact ⟨_, _, rfl, rfl, Or.inr (Or.inr (Or.inr ⟨by omega, by omega, WD_11 (n0) (n1) (n2) (n3) (n4) (n5) ((p13.resolve_left (fun h => by omega)).2) ((p18.resolve_left (fun h => by omega)).2) ((p23.resolve_left (fun h => by omega)).2) ((p28.resolve_left (fun h => by omega)).2) ((p33.resolve_left (fun h => by omega)).2) (p38.resolve_right (fun h => by omega)).2⟩)), by omega, by omega⟩
            · intro kk41
              refine g_bipush (by decide) rfl ?_
              refine g_goto rfl ?_
              refine g_iret rfl rfl ?_
              obtain ⟨-, n0, n1, n2, n3, n4, n5⟩ := p6.resolve_left (fun h => by omega)
              exact ⟨_, _, rfl, rfl, Or.inr (Or.inr (Or.inr ⟨by omega, by omega, WD_10 (n0) (n1) (n2) (n3) (n4) (n5) ((p13.resolve_left (fun h => by omega)).2) ((p18.resolve_left (fun h => by omega)).2) ((p23.resolve_left (fun h => by omega)).2) ((p28.resolve_left (fun h => by omega)).2) (p33.resolve_right (fun h => by omega)).2⟩)), by omega, by omega⟩
          · intro kk42
            refine g_bipush (by decide) rfl ?_
            refine g_goto rfl ?_
            refine g_iret rfl rfl ?_
            obtain ⟨-, n0, n1, n2, n3, n4, n5⟩ := p6.resolve_left (fun h => by omega)
            exact ⟨_, _, rfl, rfl, Or.inr (Or.inr (Or.inr ⟨by omega, by omega, WD_9 (n0) (n1) (n2) (n3) (n4) (n5) ((p13.resolve_left (fun h => by omega)).2) ((p18.resolve_left (fun h => by omega)).2) ((p23.resolve_left (fun h => by omega)).2) (p28.resolve_right (fun h => by omega)).2⟩)), by omega, by omega⟩
        · intro kk43
          refine g_bipush (by decide) rfl ?_
          refine g_goto rfl ?_
          refine g_iret rfl rfl ?_
          obtain ⟨-, n0, n1, n2, n3, n4, n5⟩ := p6.resolve_left (fun h => by omega)
          exact ⟨_, _, rfl, rfl, Or.inr (Or.inr (Or.inr ⟨by omega, by omega, WD_8 (n0) (n1) (n2) (n3) (n4) (n5) ((p13.resolve_left (fun h => by omega)).2) ((p18.resolve_left (fun h => by omega)).2) (p23.resolve_right (fun h => by omega)).2⟩)), by omega, by omega⟩
      · intro kk44
        refine g_bipush (by decide) rfl ?_
        refine g_goto rfl ?_
        refine g_iret rfl rfl ?_
        obtain ⟨-, n0, n1, n2, n3, n4, n5⟩ := p6.resolve_left (fun h => by omega)
        exact ⟨_, _, rfl, rfl, Or.inr (Or.inr (Or.inr ⟨by omega, by omega, WD_7 (n0) (n1) (n2) (n3) (n4) (n5) ((p13.resolve_left (fun h => by omega)).2) (p18.resolve_right (fun h => by omega)).2⟩)), by omega, by omega⟩
    · intro kk45
      refine g_iconst rfl ?_
      refine g_goto rfl ?_
      refine g_iret rfl rfl ?_
      obtain ⟨-, n0, n1, n2, n3, n4, n5⟩ := p6.resolve_left (fun h => by omega)
      exact ⟨_, _, rfl, rfl, Or.inr (Or.inl ⟨rfl, WD_6 (n0) (n1) (n2) (n3) (n4) (n5) (p13.resolve_right (fun h => by omega)).2⟩), by omega, by omega⟩
  · intro kk46
    refine g_iconst rfl ?_
    refine g_iload_n (n := 1) rfl rfl ?_
    refine g_iadd rfl ?_
    refine g_goto rfl ?_
    refine g_iret rfl rfl ?_
    have h0 := p6.resolve_right (fun h => by omega)
    exact ⟨_, _, rfl, rfl, Or.inr (Or.inr (Or.inl ⟨by omega, by omega, by omega⟩)), by omega, by omega⟩
