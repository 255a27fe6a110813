/-! ===== the law, its calls one by one ===== -/
theorem lw_mc : ae_mc mL_law = 600000 := rfl
theorem lw_ms : ae_ms mL_law = 7302250 := rfl
theorem w_0 {V : cg_V} (hL : V.2.2.2.1 ≤ 256) {m : kM} {i : Int} {cs sl k : Nat} (hiv : iv m) (hbu : bu cs sl k m) (hk : k ≤ 63) (hi : 0 ≤ i ∧ i + 4 ≤ ((V.2.2.2.1 : Nat) : Int)) (K : ∀ (m' : kM) (cs' sl' : Nat), iv m' → bu cs' sl' (k + 1) m' → cg_G V mL_law 11 406 (fun r => ∃ w9, r = (some (vI 1), w9)) 756 [(3, vI i), (2, vR 61), (1, vR 0), (0, vE 1)] [] (kl m') cs' sl') : cg_G V mL_law 11 406 (fun r => ∃ w9, r = (some (vI 1), w9)) 144 [(3, vI i), (2, vR 61), (1, vR 0), (0, vE 1)] [] (kl m) cs sl := by
  obtain ⟨i_I, i_W, i_P, i_4, i_D, i_K, r3, r2, r7, r8, r10, r22⟩ := hiv
  have b1 := hbu.1
  have pp1 := pp_s k
  have pp2 := pp_s (k + 1)
  have pp3 := pp_le (show k + 1 ≤ 64 by omega)
  have b2 : sl ≤ 267897 + pp (k + 1) := by rcases hbu.2 with h | h <;> omega
  refine g_aload_n (n := 1) rfl rfl ?_
  refine g_aload_n (n := 0) rfl rfl ?_
  refine g_iload_n (n := 3) rfl rfl ?_
  refine g_iconst rfl ?_
  refine g_iadd rfl ?_
  refine g_xld (by omega) (by omega) hL (show decode cL_law 149 = .ok (.iaload, 1) by decide +kernel) ?_
  have h1 := sx_rng V (i + 1)
  refine g_i2l (by omega) (by omega) rfl ?_
  refine g_bipush (by decide) rfl ?_
  refine g_lshl rfl ?_
  intro z2 h3 h4 h5
  refine g_aload_n (n := 0) rfl rfl ?_
  refine g_iload_n (n := 3) rfl rfl ?_
  refine g_iconst rfl ?_
  refine g_iadd rfl ?_
  refine g_xld (by omega) (by omega) hL (show decode cL_law 158 = .ok (.iaload, 1) by decide +kernel) ?_
  have h6 := sx_rng V (i + 2)
  refine g_i2l (by omega) (by omega) rfl ?_
  refine g_ldc2 (x := 4294967295) (by decide) rfl ?_
  refine g_land rfl ?_
  intro z7 h8 h9 h10
  refine g_lor rfl ?_
  intro z11 h12 h13 h14
  refine g_aload_n (n := 0) rfl rfl ?_
  refine g_iload_n (n := 3) rfl rfl ?_
  refine g_iconst rfl ?_
  refine g_iadd rfl ?_
  refine g_xld (by omega) (by omega) hL (show decode cL_law 169 = .ok (.iaload, 1) by decide +kernel) ?_
  have h15 := sx_rng V (i + 3)
  refine c_vI (i := 0) (ps := [vI (sx V (i + 3)), vL z11]) (r := []) (as := [vR 0, vL z11, vI (sx V (i + 3))]) (cs' := cs + 0) (sl' := sl + 0) rfl rfl rfl rfl rfl rfl (kl_0 _) (c_write (d := 11 - 1) (q := 406 - (4 + 19)) (by decide) (by decide) i_I (x := z11) (n := (sx V (i + 3))) (show (-9223372036854775808) ≤ z11 ∧ z11 ≤ 9223372036854775807 by omega) (show (-2147483648) ≤ (sx V (i + 3)) ∧ (sx V (i + 3)) ≤ 2147483647 by omega)) (by decide) (show 4 + 19 ≤ 406 by decide) (Nat.le_trans (show cs + 0 ≤ 600000 by omega) (Nat.le_of_eq lw_mc.symm)) (Nat.le_trans (show sl + 0 ≤ 7302250 by omega) (Nat.le_of_eq lw_ms.symm)) rfl rfl rfl ?_
  rintro z16 m17 ⟨hm19, hf20, p18⟩
  have h21 : m17.1 7 = m.1 7 := hf20.1 7 rfl
  have h22 : m17.1 8 = m.1 8 := hf20.1 8 rfl
  have h23 : m17.1 10 = m.1 10 := hf20.1 10 rfl
  have h24 : m17.1 22 = m.1 22 := hf20.1 22 rfl
  have h25 : m17.1 23 = m.1 23 := hf20.1 23 rfl
  have h26 : m17.1 25 = m.1 25 := hf20.1 25 rfl
  have h27 : m17.1 26 = m.1 26 := hf20.1 26 rfl
  have h28 : m17.1 28 = m.1 28 := hf20.1 28 rfl
  have h29 : m17.1 39 = m.1 39 := hf20.1 39 rfl
  have y64_m17 : m17.2.1 64 = m.2.1 64 := hf20.2.1 64 rfl
  have t30 : kW m17 := kW_of (hf20.2.1 18 rfl) i_W
  have t31 : kP m17 := kP_fr hf20 rfl rfl i_P
  have t32 : k4 m17 := k4_of (hf20.1 28 rfl) i_4
  have t33 : kD m17 := kD_of (hf20.1 26 rfl) (hf20.2.1 66 rfl) i_D
  have t34 : kK m17 := kK_same (hf20.1 28 rfl) (hf20.2.1 62 rfl) (hf20.2.1 63 rfl) i_K
  have R_m17 : m17.2.2.1 0 = m.2.2.1 0 := by rw [hf20.2.2]
  refine g_pop rfl rfl ?_
  refine g_aload_n (n := 2) rfl rfl ?_
  refine g_aload_n (n := 0) rfl rfl ?_
  refine g_iload_n (n := 3) rfl rfl ?_
  refine g_iconst rfl ?_
  refine g_iadd rfl ?_
  refine g_xld (by omega) (by omega) hL (show decode cL_law 179 = .ok (.iaload, 1) by decide +kernel) ?_
  have h35 := sx_rng V (i + 1)
  refine g_i2l (by omega) (by omega) rfl ?_
  refine g_bipush (by decide) rfl ?_
  refine g_lshl rfl ?_
  intro z36 h37 h38 h39
  obtain rfl : z2 = z36 := h3.trans h37.symm
  refine g_aload_n (n := 0) rfl rfl ?_
  refine g_iload_n (n := 3) rfl rfl ?_
  refine g_iconst rfl ?_
  refine g_iadd rfl ?_
  refine g_xld (by omega) (by omega) hL (show decode cL_law 188 = .ok (.iaload, 1) by decide +kernel) ?_
  have h40 := sx_rng V (i + 2)
  refine g_i2l (by omega) (by omega) rfl ?_
  refine g_ldc2 (x := 4294967295) (by decide) rfl ?_
  refine g_land rfl ?_
  intro z41 h42 h43 h44
  obtain rfl : z7 = z41 := h8.trans h42.symm
  refine g_lor rfl ?_
  intro z45 h46 h47 h48
  obtain rfl : z11 = z45 := h12.trans h46.symm
  refine g_aload_n (n := 0) rfl rfl ?_
  refine g_iload_n (n := 3) rfl rfl ?_
  refine g_iconst rfl ?_
  refine g_iadd rfl ?_
  refine g_xld (by omega) (by omega) hL (show decode cL_law 199 = .ok (.iaload, 1) by decide +kernel) ?_
  have h49 := sx_rng V (i + 3)
  refine c_vI (i := 61) (ps := [vI (sx V (i + 3)), vL z11]) (r := []) (as := [vR 61, vL z11, vI (sx V (i + 3))]) (cs' := cs + 0 + 0) (sl' := sl + 0 + 0) rfl rfl rfl rfl rfl rfl (kl_61 _) (d_write (d := 11 - 1) (q := 406 - (5 + 19)) (by decide) (by decide) hm19 (x := z11) (n := (sx V (i + 3))) (show (-9223372036854775808) ≤ z11 ∧ z11 ≤ 9223372036854775807 by omega) (show (-2147483648) ≤ (sx V (i + 3)) ∧ (sx V (i + 3)) ≤ 2147483647 by omega)) (by decide) (show 5 + 19 ≤ 406 by decide) (Nat.le_trans (show cs + 0 + 0 ≤ 600000 by omega) (Nat.le_of_eq lw_mc.symm)) (Nat.le_trans (show sl + 0 + 0 ≤ 7302250 by omega) (Nat.le_of_eq lw_ms.symm)) rfl rfl rfl ?_
  rintro z50 m51 ⟨hm53, hf54, p52⟩
  have h55 : m51.1 3 = m17.1 3 := hf54.1 3 rfl
  have h56 : m51.1 7 = m17.1 7 := hf54.1 7 rfl
  have h57 : m51.1 8 = m17.1 8 := hf54.1 8 rfl
  have h58 : m51.1 10 = m17.1 10 := hf54.1 10 rfl
  have h59 : m51.1 22 = m17.1 22 := hf54.1 22 rfl
  have h60 : m51.1 25 = m17.1 25 := hf54.1 25 rfl
  have h61 : m51.1 26 = m17.1 26 := hf54.1 26 rfl
  have h62 : m51.1 28 = m17.1 28 := hf54.1 28 rfl
  have h63 : m51.1 39 = m17.1 39 := hf54.1 39 rfl
  have y2_m51 : m51.2.1 2 = m17.2.1 2 := hf54.2.1 2 rfl
  have t64 : kW m51 := kW_of (hf54.2.1 18 rfl) t30
  have t65 : kP m51 := kP_fr hf54 rfl rfl t31
  have t66 : k4 m51 := k4_of (hf54.1 28 rfl) t32
  have t67 : kD m51 := kD_of (hf54.1 26 rfl) (hf54.2.1 66 rfl) t33
  have t68 : kK m51 := kK_same (hf54.1 28 rfl) (hf54.2.1 62 rfl) (hf54.2.1 63 rfl) t34
  have R_m51 : m51.2.2.1 0 = m17.2.2.1 0 := by rw [hf54.2.2]
  refine g_pop rfl rfl ?_
  refine g_goto rfl ?_
  have r2n : m51.2.1 2 = m51.2.1 64 := by
    rcases p18 with a | a
    · rcases p52 with b | b
      · rw [y2_m51, a.2.2.2.2.1, b.2.2.2.2.1, y64_m17, r2, r3, show m17.1 23 = m.1 23 by omega]
      · exfalso; omega
    · rcases p52 with b | b
      · exfalso; omega
      · rw [y2_m51, a.2.2, b.2.2, y64_m17, r2]
  have hrl : rl m51 := ⟨by omega, r2n, by omega, by omega, by omega, by omega⟩
  have hb2 : sl + 0 + 0 ≤ 267897 + pp (k + 1) ∨ (m51.2.2.1 0 ≠ vE 0 ∧ sl + 0 + 0 ≤ 267897 + pp (k + 1 + 1)) := by
    rcases hbu.2 with h | ⟨h1, h2⟩
    · left; omega
    · right; refine ⟨?_, by omega⟩
      have u69 : m17.2.2.1 0 ≠ vE 0 := by rw [R_m17]; exact h1
      have u70 : m51.2.2.1 0 ≠ vE 0 := by rw [R_m51]; exact u69
      exact u70
  exact K m51 (cs + 0 + 0) (sl + 0 + 0) ⟨hm53, t64, t65, t66, t67, t68, hrl⟩ ⟨by omega, hb2⟩
theorem w_1 {V : cg_V} (hL : V.2.2.2.1 ≤ 256) {m : kM} {i : Int} {cs sl k : Nat} (hiv : iv m) (hbu : bu cs sl k m) (hk : k ≤ 63) (hi : 0 ≤ i ∧ i + 4 ≤ ((V.2.2.2.1 : Nat) : Int)) (K : ∀ (m' : kM) (cs' sl' : Nat), iv m' → bu cs' sl' (k + 1) m' → cg_G V mL_law 11 406 (fun r => ∃ w9, r = (some (vI 1), w9)) 756 [(3, vI i), (2, vR 61), (1, vR 0), (0, vE 1)] [] (kl m') cs' sl') : cg_G V mL_law 11 406 (fun r => ∃ w9, r = (some (vI 1), w9)) 207 [(3, vI i), (2, vR 61), (1, vR 0), (0, vE 1)] [] (kl m) cs sl := by
  obtain ⟨i_I, i_W, i_P, i_4, i_D, i_K, r3, r2, r7, r8, r10, r22⟩ := hiv
  have b1 := hbu.1
  have pp1 := pp_s k
  have pp2 := pp_s (k + 1)
  have pp3 := pp_le (show k + 1 ≤ 64 by omega)
  have b2 : sl ≤ 267897 + pp (k + 1) := by rcases hbu.2 with h | h <;> omega
  refine g_aload_n (n := 1) rfl rfl ?_
  refine c_vI (i := 0) (ps := []) (r := []) (as := [vR 0]) (cs' := cs + 0) (sl' := sl + 0) rfl rfl rfl rfl rfl rfl (kl_0 _) (c_erase (d := 11 - 1) (q := 406 - (1 + 19)) (by decide) (by decide) i_I  ) (by decide) (show 1 + 19 ≤ 406 by decide) (Nat.le_trans (show cs + 0 ≤ 600000 by omega) (Nat.le_of_eq lw_mc.symm)) (Nat.le_trans (show sl + 0 ≤ 7302250 by omega) (Nat.le_of_eq lw_ms.symm)) rfl rfl rfl ?_
  rintro z1 m2 ⟨hm5, hf6, p3, p4⟩
  have h7 : m2.1 7 = m.1 7 := hf6.1 7 rfl
  have h8 : m2.1 8 = m.1 8 := hf6.1 8 rfl
  have h9 : m2.1 10 = m.1 10 := hf6.1 10 rfl
  have h10 : m2.1 22 = m.1 22 := hf6.1 22 rfl
  have h11 : m2.1 23 = m.1 23 := hf6.1 23 rfl
  have h12 : m2.1 25 = m.1 25 := hf6.1 25 rfl
  have h13 : m2.1 26 = m.1 26 := hf6.1 26 rfl
  have h14 : m2.1 28 = m.1 28 := hf6.1 28 rfl
  have h15 : m2.1 39 = m.1 39 := hf6.1 39 rfl
  have y2_m2 : m2.2.1 2 = m.2.1 2 := hf6.2.1 2 rfl
  have y64_m2 : m2.2.1 64 = m.2.1 64 := hf6.2.1 64 rfl
  have t16 : kW m2 := kW_of (hf6.2.1 18 rfl) i_W
  have t17 : kP m2 := kP_fr hf6 rfl rfl i_P
  have t18 : k4 m2 := k4_of (hf6.1 28 rfl) i_4
  have t19 : kD m2 := kD_of (hf6.1 26 rfl) (hf6.2.1 66 rfl) i_D
  have t20 : kK m2 := kK_same (hf6.1 28 rfl) (hf6.2.1 62 rfl) (hf6.2.1 63 rfl) i_K
  have R_m2 : m2.2.2.1 0 = m.2.2.1 0 := by rw [hf6.2.2]
  refine g_pop rfl rfl ?_
  refine g_aload_n (n := 2) rfl rfl ?_
  refine c_vI (i := 61) (ps := []) (r := []) (as := [vR 61]) (cs' := cs + 0 + 0) (sl' := sl + 0 + 0) rfl rfl rfl rfl rfl rfl (kl_61 _) (d_erase (d := 11 - 1) (q := 406 - (2 + 19)) (by decide) (by decide) hm5  ) (by decide) (show 2 + 19 ≤ 406 by decide) (Nat.le_trans (show cs + 0 + 0 ≤ 600000 by omega) (Nat.le_of_eq lw_mc.symm)) (Nat.le_trans (show sl + 0 + 0 ≤ 7302250 by omega) (Nat.le_of_eq lw_ms.symm)) rfl rfl rfl ?_
  rintro z21 m22 ⟨hm25, hf26, p23, p24⟩
  have h27 : m22.1 3 = m2.1 3 := hf26.1 3 rfl
  have h28 : m22.1 7 = m2.1 7 := hf26.1 7 rfl
  have h29 : m22.1 8 = m2.1 8 := hf26.1 8 rfl
  have h30 : m22.1 10 = m2.1 10 := hf26.1 10 rfl
  have h31 : m22.1 22 = m2.1 22 := hf26.1 22 rfl
  have h32 : m22.1 25 = m2.1 25 := hf26.1 25 rfl
  have h33 : m22.1 26 = m2.1 26 := hf26.1 26 rfl
  have h34 : m22.1 28 = m2.1 28 := hf26.1 28 rfl
  have h35 : m22.1 39 = m2.1 39 := hf26.1 39 rfl
  have y2_m22 : m22.2.1 2 = m2.2.1 2 := hf26.2.1 2 rfl
  have y64_m22 : m22.2.1 64 = m2.2.1 64 := hf26.2.1 64 rfl
  have t36 : kW m22 := kW_of (hf26.2.1 18 rfl) t16
  have t37 : kP m22 := kP_fr hf26 rfl rfl t17
  have t38 : k4 m22 := k4_of (hf26.1 28 rfl) t18
  have t39 : kD m22 := kD_of (hf26.1 26 rfl) (hf26.2.1 66 rfl) t19
  have t40 : kK m22 := kK_same (hf26.1 28 rfl) (hf26.2.1 62 rfl) (hf26.2.1 63 rfl) t20
  have R_m22 : m22.2.2.1 0 = m2.2.2.1 0 := by rw [hf26.2.2]
  refine g_pop rfl rfl ?_
  refine g_goto rfl ?_
  have r2n : m22.2.1 2 = m22.2.1 64 := by rw [y2_m22, y2_m2, y64_m22, y64_m2, r2]
  have hrl : rl m22 := ⟨by omega, r2n, by omega, by omega, by omega, by omega⟩
  have hb2 : sl + 0 + 0 ≤ 267897 + pp (k + 1) ∨ (m22.2.2.1 0 ≠ vE 0 ∧ sl + 0 + 0 ≤ 267897 + pp (k + 1 + 1)) := by
    rcases hbu.2 with h | ⟨h1, h2⟩
    · left; omega
    · right; refine ⟨?_, by omega⟩
      have u41 : m2.2.2.1 0 ≠ vE 0 := by rw [R_m2]; exact h1
      have u42 : m22.2.2.1 0 ≠ vE 0 := by rw [R_m22]; exact u41
      exact u42
  exact K m22 (cs + 0 + 0) (sl + 0 + 0) ⟨hm25, t36, t37, t38, t39, t40, hrl⟩ ⟨by omega, hb2⟩
theorem w_2 {V : cg_V} (hL : V.2.2.2.1 ≤ 256) {m : kM} {i : Int} {cs sl k : Nat} (hiv : iv m) (hbu : bu cs sl k m) (hk : k ≤ 63) (hi : 0 ≤ i ∧ i + 4 ≤ ((V.2.2.2.1 : Nat) : Int)) (K : ∀ (m' : kM) (cs' sl' : Nat), iv m' → bu cs' sl' (k + 1) m' → cg_G V mL_law 11 406 (fun r => ∃ w9, r = (some (vI 1), w9)) 756 [(3, vI i), (2, vR 61), (1, vR 0), (0, vE 1)] [] (kl m') cs' sl') : cg_G V mL_law 11 406 (fun r => ∃ w9, r = (some (vI 1), w9)) 220 [(3, vI i), (2, vR 61), (1, vR 0), (0, vE 1)] [] (kl m) cs sl := by
  obtain ⟨i_I, i_W, i_P, i_4, i_D, i_K, r3, r2, r7, r8, r10, r22⟩ := hiv
  have b1 := hbu.1
  have pp1 := pp_s k
  have pp2 := pp_s (k + 1)
  have pp3 := pp_le (show k + 1 ≤ 64 by omega)
  have b2 : sl ≤ 267897 + pp (k + 1) := by rcases hbu.2 with h | h <;> omega
  refine g_aload_n (n := 1) rfl rfl ?_
  refine c_vI (i := 0) (ps := []) (r := []) (as := [vR 0]) (cs' := cs + 0) (sl' := sl + 0) rfl rfl rfl rfl rfl rfl (kl_0 _) (c_fault (d := 11 - 1) (q := 406 - (1 + 19)) (by decide) (by decide) i_I  ) (by decide) (show 1 + 19 ≤ 406 by decide) (Nat.le_trans (show cs + 0 ≤ 600000 by omega) (Nat.le_of_eq lw_mc.symm)) (Nat.le_trans (show sl + 0 ≤ 7302250 by omega) (Nat.le_of_eq lw_ms.symm)) rfl rfl rfl ?_
  rintro z1 m2 ⟨hm4, hf5, p3⟩
  have h6 : m2.1 3 = m.1 3 := hf5.1 3 rfl
  have h7 : m2.1 7 = m.1 7 := hf5.1 7 rfl
  have h8 : m2.1 8 = m.1 8 := hf5.1 8 rfl
  have h9 : m2.1 10 = m.1 10 := hf5.1 10 rfl
  have h10 : m2.1 22 = m.1 22 := hf5.1 22 rfl
  have h11 : m2.1 23 = m.1 23 := hf5.1 23 rfl
  have h12 : m2.1 25 = m.1 25 := hf5.1 25 rfl
  have h13 : m2.1 26 = m.1 26 := hf5.1 26 rfl
  have h14 : m2.1 28 = m.1 28 := hf5.1 28 rfl
  have h15 : m2.1 39 = m.1 39 := hf5.1 39 rfl
  have y2_m2 : m2.2.1 2 = m.2.1 2 := hf5.2.1 2 rfl
  have y64_m2 : m2.2.1 64 = m.2.1 64 := hf5.2.1 64 rfl
  have t16 : kW m2 := kW_of (hf5.2.1 18 rfl) i_W
  have t17 : kP m2 := kP_fr hf5 rfl rfl i_P
  have t18 : k4 m2 := k4_of (hf5.1 28 rfl) i_4
  have t19 : kD m2 := kD_of (hf5.1 26 rfl) (hf5.2.1 66 rfl) i_D
  have t20 : kK m2 := kK_same (hf5.1 28 rfl) (hf5.2.1 62 rfl) (hf5.2.1 63 rfl) i_K
  have R_m2 : m2.2.2.1 0 = m.2.2.1 0 := by rw [hf5.2.2]
  refine g_pop rfl rfl ?_
  refine g_aload_n (n := 2) rfl rfl ?_
  refine c_vI (i := 61) (ps := []) (r := []) (as := [vR 61]) (cs' := cs + 0 + 0) (sl' := sl + 0 + 0) rfl rfl rfl rfl rfl rfl (kl_61 _) (d_fault (d := 11 - 1) (q := 406 - (2 + 19)) (by decide) (by decide) hm4  t18) (by decide) (show 2 + 19 ≤ 406 by decide) (Nat.le_trans (show cs + 0 + 0 ≤ 600000 by omega) (Nat.le_of_eq lw_mc.symm)) (Nat.le_trans (show sl + 0 + 0 ≤ 7302250 by omega) (Nat.le_of_eq lw_ms.symm)) rfl rfl rfl ?_
  rintro z21 m22 ⟨hm27, hf28, p23, p24, p25, p26⟩
  have h29 : m22.1 3 = m2.1 3 := hf28.1 3 rfl
  have h30 : m22.1 7 = m2.1 7 := hf28.1 7 rfl
  have h31 : m22.1 8 = m2.1 8 := hf28.1 8 rfl
  have h32 : m22.1 10 = m2.1 10 := hf28.1 10 rfl
  have h33 : m22.1 22 = m2.1 22 := hf28.1 22 rfl
  have h34 : m22.1 23 = m2.1 23 := hf28.1 23 rfl
  have h35 : m22.1 25 = m2.1 25 := hf28.1 25 rfl
  have h36 : m22.1 26 = m2.1 26 := hf28.1 26 rfl
  have h37 : m22.1 28 = m2.1 28 := hf28.1 28 rfl
  have h38 : m22.1 39 = m2.1 39 := hf28.1 39 rfl
  have y2_m22 : m22.2.1 2 = m2.2.1 2 := hf28.2.1 2 rfl
  have y64_m22 : m22.2.1 64 = m2.2.1 64 := hf28.2.1 64 rfl
  have t39 : kW m22 := kW_of (hf28.2.1 18 rfl) t16
  have t40 : kP m22 := kP_fr hf28 rfl rfl t17
  have t41 : k4 m22 := k4_of (hf28.1 28 rfl) t18
  have t42 : kD m22 := kD_of (hf28.1 26 rfl) (hf28.2.1 66 rfl) t19
  have t43 : kK m22 := kK_same (hf28.1 28 rfl) (hf28.2.1 62 rfl) (hf28.2.1 63 rfl) t20
  have R_m22 : m22.2.2.1 0 = m2.2.2.1 0 := by rw [hf28.2.2]
  refine g_pop rfl rfl ?_
  refine g_goto rfl ?_
  have r2n : m22.2.1 2 = m22.2.1 64 := by rw [y2_m22, y2_m2, y64_m22, y64_m2, r2]
  have hrl : rl m22 := ⟨by omega, r2n, by omega, by omega, by omega, by omega⟩
  have hb2 : sl + 0 + 0 ≤ 267897 + pp (k + 1) ∨ (m22.2.2.1 0 ≠ vE 0 ∧ sl + 0 + 0 ≤ 267897 + pp (k + 1 + 1)) := by
    rcases hbu.2 with h | ⟨h1, h2⟩
    · left; omega
    · right; refine ⟨?_, by omega⟩
      have u44 : m2.2.2.1 0 ≠ vE 0 := by rw [R_m2]; exact h1
      have u45 : m22.2.2.1 0 ≠ vE 0 := by rw [R_m22]; exact u44
      exact u45
  exact K m22 (cs + 0 + 0) (sl + 0 + 0) ⟨hm27, t39, t40, t41, t42, t43, hrl⟩ ⟨by omega, hb2⟩
theorem w_3 {V : cg_V} (hL : V.2.2.2.1 ≤ 256) {m : kM} {i : Int} {cs sl k : Nat} (hiv : iv m) (hbu : bu cs sl k m) (hk : k ≤ 63) (hi : 0 ≤ i ∧ i + 4 ≤ ((V.2.2.2.1 : Nat) : Int)) (K : ∀ (m' : kM) (cs' sl' : Nat), iv m' → bu cs' sl' (k + 1) m' → cg_G V mL_law 11 406 (fun r => ∃ w9, r = (some (vI 1), w9)) 756 [(3, vI i), (2, vR 61), (1, vR 0), (0, vE 1)] [] (kl m') cs' sl') : cg_G V mL_law 11 406 (fun r => ∃ w9, r = (some (vI 1), w9)) 233 [(3, vI i), (2, vR 61), (1, vR 0), (0, vE 1)] [] (kl m) cs sl := by
  obtain ⟨i_I, i_W, i_P, i_4, i_D, i_K, r3, r2, r7, r8, r10, r22⟩ := hiv
  have b1 := hbu.1
  have pp1 := pp_s k
  have pp2 := pp_s (k + 1)
  have pp3 := pp_le (show k + 1 ≤ 64 by omega)
  have b2 : sl ≤ 267897 + pp (k + 1) := by rcases hbu.2 with h | h <;> omega
  refine g_aload_n (n := 1) rfl rfl ?_
  refine c_vI (i := 0) (ps := []) (r := []) (as := [vR 0]) (cs' := cs + 0) (sl' := sl + 0) rfl rfl rfl rfl rfl rfl (kl_0 _) (c_gaol (d := 11 - 1) (q := 406 - (1 + 19)) (by decide) (by decide) i_I  i_W i_P) (by decide) (show 1 + 19 ≤ 406 by decide) (Nat.le_trans (show cs + 0 ≤ 600000 by omega) (Nat.le_of_eq lw_mc.symm)) (Nat.le_trans (show sl + 0 ≤ 7302250 by omega) (Nat.le_of_eq lw_ms.symm)) rfl rfl rfl ?_
  rintro z1 m2 ⟨hm6, hf7, p3, p4, p5⟩
  have h8 : m2.1 23 = m.1 23 := hf7.1 23 rfl
  have h9 : m2.1 25 = m.1 25 := hf7.1 25 rfl
  have h10 : m2.1 26 = m.1 26 := hf7.1 26 rfl
  have h11 : m2.1 28 = m.1 28 := hf7.1 28 rfl
  have h12 : m2.1 39 = m.1 39 := hf7.1 39 rfl
  have y2_m2 : m2.2.1 2 = m.2.1 2 := hf7.2.1 2 rfl
  have y64_m2 : m2.2.1 64 = m.2.1 64 := hf7.2.1 64 rfl
  have t13 : k4 m2 := k4_of (hf7.1 28 rfl) i_4
  have t14 : kD m2 := kD_of (hf7.1 26 rfl) (hf7.2.1 66 rfl) i_D
  have t15 : kK m2 := kK_same (hf7.1 28 rfl) (hf7.2.1 62 rfl) (hf7.2.1 63 rfl) i_K
  refine g_aload_n (n := 2) rfl rfl ?_
  refine c_vI (i := 61) (ps := []) (r := [vI z1]) (as := [vR 61]) (cs' := cs + 0 + 0) (sl' := sl + 0 + 0) rfl rfl rfl rfl rfl rfl (kl_61 _) (d_gaol (d := 11 - 1) (q := 406 - (2 + 19)) (by decide) (by decide) hm6  t13 t14 t15) (by decide) (show 2 + 19 ≤ 406 by decide) (Nat.le_trans (show cs + 0 + 0 ≤ 600000 by omega) (Nat.le_of_eq lw_mc.symm)) (Nat.le_trans (show sl + 0 + 0 ≤ 7302250 by omega) (Nat.le_of_eq lw_ms.symm)) rfl rfl rfl ?_
  rintro z16 m17 ⟨hm22, hf23, p18, p19, p20, p21⟩
  have h24 : m17.1 3 = m2.1 3 := hf23.1 3 rfl
  have h25 : m17.1 7 = m2.1 7 := hf23.1 7 rfl
  have h26 : m17.1 8 = m2.1 8 := hf23.1 8 rfl
  have h27 : m17.1 10 = m2.1 10 := hf23.1 10 rfl
  have h28 : m17.1 22 = m2.1 22 := hf23.1 22 rfl
  have y2_m17 : m17.2.1 2 = m2.2.1 2 := hf23.2.1 2 rfl
  have y64_m17 : m17.2.1 64 = m2.2.1 64 := hf23.2.1 64 rfl
  have t29 : kW m17 := kW_of (hf23.2.1 18 rfl) p4
  have t30 : kP m17 := kP_fr hf23 rfl rfl p5
  have R_m17 : m17.2.2.1 0 = m2.2.2.1 0 := by rw [hf23.2.2]
  have eR9 : RD (m2.2.1 64) (m2.1 23) 10 0 (m2.1 25) (m2.1 26) (m2.1 28) = RD (m.2.1 2) (m.1 3) 10 0 (m.1 7) (m.1 8) (m.1 10) := by rw [y64_m2, ← r2, show m2.1 23 = m.1 3 by omega, show m2.1 25 = m.1 7 by omega, show m2.1 26 = m.1 8 by omega, show m2.1 28 = m.1 10 by omega]
  have g9 := p18
  rw [eR9] at g9
  have l9 := RD_ln (m.2.1 2) (m.1 3) 10 (Nat.le_refl 10) 0 (m.1 7) (m.1 8) (m.1 10)
  have hz : z1 = z16 := by omega
  have ra : -2147483648 ≤ z1 ∧ z1 < 2147483648 := by omega
  have rb : -2147483648 ≤ z16 ∧ z16 < 2147483648 := by omega
  refine g_icmp_eq ra.1 ra.2 rb.1 rb.2 rfl ?_ (fun kk => absurd hz kk)
  intro kk
  have eR : RD (m2.2.1 64) (m2.1 23) 10 0 (m2.1 25) (m2.1 26) (m2.1 28) = RD (m.2.1 2) (m.1 3) 10 0 (m.1 7) (m.1 8) (m.1 10) := by rw [y64_m2, ← r2, show m2.1 23 = m.1 3 by omega, show m2.1 25 = m.1 7 by omega, show m2.1 26 = m.1 8 by omega, show m2.1 28 = m.1 10 by omega]
  have g2 := p18
  rw [eR] at g2
  have r2n : m17.2.1 2 = m17.2.1 64 := by rw [y2_m17, y64_m17, y2_m2, y64_m2, r2]
  have hrl : rl m17 := ⟨by omega, r2n, by omega, by omega, by omega, by omega⟩
  exact K m17 (cs + 0 + 0) (sl + 0 + 0) ⟨hm22, t29, t30, p19, p20, p21, hrl⟩ ⟨by omega, Or.inl (by omega)⟩
theorem w_4 {V : cg_V} (hL : V.2.2.2.1 ≤ 256) {m : kM} {i : Int} {cs sl k : Nat} (hiv : iv m) (hbu : bu cs sl k m) (hk : k ≤ 63) (hi : 0 ≤ i ∧ i + 4 ≤ ((V.2.2.2.1 : Nat) : Int)) (K : ∀ (m' : kM) (cs' sl' : Nat), iv m' → bu cs' sl' (k + 1) m' → cg_G V mL_law 11 406 (fun r => ∃ w9, r = (some (vI 1), w9)) 756 [(3, vI i), (2, vR 61), (1, vR 0), (0, vE 1)] [] (kl m') cs' sl') : cg_G V mL_law 11 406 (fun r => ∃ w9, r = (some (vI 1), w9)) 246 [(3, vI i), (2, vR 61), (1, vR 0), (0, vE 1)] [] (kl m) cs sl := by
  obtain ⟨i_I, i_W, i_P, i_4, i_D, i_K, r3, r2, r7, r8, r10, r22⟩ := hiv
  have b1 := hbu.1
  have pp1 := pp_s k
  have pp2 := pp_s (k + 1)
  have pp3 := pp_le (show k + 1 ≤ 64 by omega)
  have b2 : sl ≤ 267897 + pp (k + 1) := by rcases hbu.2 with h | h <;> omega
  refine g_aload_n (n := 1) rfl rfl ?_
  refine g_aload_n (n := 0) rfl rfl ?_
  refine g_iload_n (n := 3) rfl rfl ?_
  refine g_iconst rfl ?_
  refine g_iadd rfl ?_
  refine g_xld (by omega) (by omega) hL (show decode cL_law 251 = .ok (.iaload, 1) by decide +kernel) ?_
  have h1 := sx_rng V (i + 1)
  refine g_aload_n (n := 0) rfl rfl ?_
  refine g_iload_n (n := 3) rfl rfl ?_
  refine g_iconst rfl ?_
  refine g_iadd rfl ?_
  refine g_xld (by omega) (by omega) hL (show decode cL_law 256 = .ok (.iaload, 1) by decide +kernel) ?_
  have h2 := sx_rng V (i + 2)
  refine c_vI (i := 0) (ps := [vI (sx V (i + 2)), vI (sx V (i + 1))]) (r := []) (as := [vR 0, vI (sx V (i + 1)), vI (sx V (i + 2))]) (cs' := cs + 0) (sl' := sl + 0) rfl rfl rfl rfl rfl rfl (kl_0 _) (c_room (d := 11 - 1) (q := 406 - (3 + 19)) (by decide) (by decide) i_I (r := (sx V (i + 1))) (w := (sx V (i + 2))) (show (-2147483648) ≤ (sx V (i + 1)) ∧ (sx V (i + 1)) ≤ 2147483647 by omega) (show (-2147483648) ≤ (sx V (i + 2)) ∧ (sx V (i + 2)) ≤ 2147483647 by omega)) (by decide) (show 3 + 19 ≤ 406 by decide) (Nat.le_trans (show cs + 0 ≤ 600000 by omega) (Nat.le_of_eq lw_mc.symm)) (Nat.le_trans (show sl + 0 ≤ 7302250 by omega) (Nat.le_of_eq lw_ms.symm)) rfl rfl rfl ?_
  rintro z3 m4 ⟨rfl, p5, p6⟩
  refine g_pop rfl rfl ?_
  refine g_aload_n (n := 2) rfl rfl ?_
  refine g_aload_n (n := 0) rfl rfl ?_
  refine g_iload_n (n := 3) rfl rfl ?_
  refine g_iconst rfl ?_
  refine g_iadd rfl ?_
  refine g_xld (by omega) (by omega) hL (show decode cL_law 266 = .ok (.iaload, 1) by decide +kernel) ?_
  have h7 := sx_rng V (i + 1)
  refine g_aload_n (n := 0) rfl rfl ?_
  refine g_iload_n (n := 3) rfl rfl ?_
  refine g_iconst rfl ?_
  refine g_iadd rfl ?_
  refine g_xld (by omega) (by omega) hL (show decode cL_law 271 = .ok (.iaload, 1) by decide +kernel) ?_
  have h8 := sx_rng V (i + 2)
  refine c_vI (i := 61) (ps := [vI (sx V (i + 2)), vI (sx V (i + 1))]) (r := []) (as := [vR 61, vI (sx V (i + 1)), vI (sx V (i + 2))]) (cs' := cs + 0 + 0) (sl' := sl + 0 + 0) rfl rfl rfl rfl rfl rfl (kl_61 _) (d_room (d := 11 - 1) (q := 406 - (3 + 19)) (by decide) (by decide) i_I (r := (sx V (i + 1))) (w := (sx V (i + 2))) (show (-2147483648) ≤ (sx V (i + 1)) ∧ (sx V (i + 1)) ≤ 2147483647 by omega) (show (-2147483648) ≤ (sx V (i + 2)) ∧ (sx V (i + 2)) ≤ 2147483647 by omega)) (by decide) (show 3 + 19 ≤ 406 by decide) (Nat.le_trans (show cs + 0 + 0 ≤ 600000 by omega) (Nat.le_of_eq lw_mc.symm)) (Nat.le_trans (show sl + 0 + 0 ≤ 7302250 by omega) (Nat.le_of_eq lw_ms.symm)) rfl rfl rfl ?_
  rintro z9 m10 ⟨rfl, p11, p12⟩
  refine g_pop rfl rfl ?_
  refine g_goto rfl ?_
  have r2n := r2
  have hrl : rl m := ⟨by omega, r2n, by omega, by omega, by omega, by omega⟩
  have hb2 : sl + 0 + 0 ≤ 267897 + pp (k + 1) ∨ (m.2.2.1 0 ≠ vE 0 ∧ sl + 0 + 0 ≤ 267897 + pp (k + 1 + 1)) := by
    rcases hbu.2 with h | ⟨h1, h2⟩
    · left; omega
    · right; refine ⟨?_, by omega⟩
      exact h1
  exact K m (cs + 0 + 0) (sl + 0 + 0) ⟨i_I, i_W, i_P, i_4, i_D, i_K, hrl⟩ ⟨by omega, hb2⟩
theorem w_5 {V : cg_V} (hL : V.2.2.2.1 ≤ 256) {m : kM} {i : Int} {cs sl k : Nat} (hiv : iv m) (hbu : bu cs sl k m) (hk : k ≤ 63) (hi : 0 ≤ i ∧ i + 4 ≤ ((V.2.2.2.1 : Nat) : Int)) (K : ∀ (m' : kM) (cs' sl' : Nat), iv m' → bu cs' sl' (k + 1) m' → cg_G V mL_law 11 406 (fun r => ∃ w9, r = (some (vI 1), w9)) 756 [(3, vI i), (2, vR 61), (1, vR 0), (0, vE 1)] [] (kl m') cs' sl') : cg_G V mL_law 11 406 (fun r => ∃ w9, r = (some (vI 1), w9)) 279 [(3, vI i), (2, vR 61), (1, vR 0), (0, vE 1)] [] (kl m) cs sl := by
  obtain ⟨i_I, i_W, i_P, i_4, i_D, i_K, r3, r2, r7, r8, r10, r22⟩ := hiv
  have b1 := hbu.1
  have pp1 := pp_s k
  have pp2 := pp_s (k + 1)
  have pp3 := pp_le (show k + 1 ≤ 64 by omega)
  have b2 : sl ≤ 267897 + pp (k + 1) := by rcases hbu.2 with h | h <;> omega
  refine g_aload_n (n := 1) rfl rfl ?_
  refine g_aload_n (n := 0) rfl rfl ?_
  refine g_iload_n (n := 3) rfl rfl ?_
  refine g_iconst rfl ?_
  refine g_iadd rfl ?_
  refine g_xld (by omega) (by omega) hL (show decode cL_law 284 = .ok (.iaload, 1) by decide +kernel) ?_
  have h1 := sx_rng V (i + 1)
  refine g_aload_n (n := 0) rfl rfl ?_
  refine g_iload_n (n := 3) rfl rfl ?_
  refine g_iconst rfl ?_
  refine g_iadd rfl ?_
  refine g_xld (by omega) (by omega) hL (show decode cL_law 289 = .ok (.iaload, 1) by decide +kernel) ?_
  have h2 := sx_rng V (i + 2)
  refine c_vI (i := 0) (ps := [vI (sx V (i + 2)), vI (sx V (i + 1))]) (r := []) (as := [vR 0, vI (sx V (i + 1)), vI (sx V (i + 2))]) (cs' := cs + 0) (sl' := sl + 0) rfl rfl rfl rfl rfl rfl (kl_0 _) (c_door (d := 11 - 1) (q := 406 - (3 + 19)) (by decide) (by decide) i_I (a := (sx V (i + 1))) (w := (sx V (i + 2))) (show (-2147483648) ≤ (sx V (i + 1)) ∧ (sx V (i + 1)) ≤ 2147483647 by omega) (show (-2147483648) ≤ (sx V (i + 2)) ∧ (sx V (i + 2)) ≤ 2147483647 by omega)) (by decide) (show 3 + 19 ≤ 406 by decide) (Nat.le_trans (show cs + 0 ≤ 600000 by omega) (Nat.le_of_eq lw_mc.symm)) (Nat.le_trans (show sl + 0 ≤ 7302250 by omega) (Nat.le_of_eq lw_ms.symm)) rfl rfl rfl ?_
  rintro z3 m4 ⟨rfl, p5, p6⟩
  refine g_pop rfl rfl ?_
  refine g_aload_n (n := 2) rfl rfl ?_
  refine g_aload_n (n := 0) rfl rfl ?_
  refine g_iload_n (n := 3) rfl rfl ?_
  refine g_iconst rfl ?_
  refine g_iadd rfl ?_
  refine g_xld (by omega) (by omega) hL (show decode cL_law 299 = .ok (.iaload, 1) by decide +kernel) ?_
  have h7 := sx_rng V (i + 1)
  refine g_aload_n (n := 0) rfl rfl ?_
  refine g_iload_n (n := 3) rfl rfl ?_
  refine g_iconst rfl ?_
  refine g_iadd rfl ?_
  refine g_xld (by omega) (by omega) hL (show decode cL_law 304 = .ok (.iaload, 1) by decide +kernel) ?_
  have h8 := sx_rng V (i + 2)
  refine c_vI (i := 61) (ps := [vI (sx V (i + 2)), vI (sx V (i + 1))]) (r := []) (as := [vR 61, vI (sx V (i + 1)), vI (sx V (i + 2))]) (cs' := cs + 0 + 0) (sl' := sl + 0 + 0) rfl rfl rfl rfl rfl rfl (kl_61 _) (d_door (d := 11 - 1) (q := 406 - (3 + 19)) (by decide) (by decide) i_I (a := (sx V (i + 1))) (w := (sx V (i + 2))) (show (-2147483648) ≤ (sx V (i + 1)) ∧ (sx V (i + 1)) ≤ 2147483647 by omega) (show (-2147483648) ≤ (sx V (i + 2)) ∧ (sx V (i + 2)) ≤ 2147483647 by omega)) (by decide) (show 3 + 19 ≤ 406 by decide) (Nat.le_trans (show cs + 0 + 0 ≤ 600000 by omega) (Nat.le_of_eq lw_mc.symm)) (Nat.le_trans (show sl + 0 + 0 ≤ 7302250 by omega) (Nat.le_of_eq lw_ms.symm)) rfl rfl rfl ?_
  rintro z9 m10 ⟨rfl, p11, p12⟩
  refine g_pop rfl rfl ?_
  refine g_goto rfl ?_
  have r2n := r2
  have hrl : rl m := ⟨by omega, r2n, by omega, by omega, by omega, by omega⟩
  have hb2 : sl + 0 + 0 ≤ 267897 + pp (k + 1) ∨ (m.2.2.1 0 ≠ vE 0 ∧ sl + 0 + 0 ≤ 267897 + pp (k + 1 + 1)) := by
    rcases hbu.2 with h | ⟨h1, h2⟩
    · left; omega
    · right; refine ⟨?_, by omega⟩
      exact h1
  exact K m (cs + 0 + 0) (sl + 0 + 0) ⟨i_I, i_W, i_P, i_4, i_D, i_K, hrl⟩ ⟨by omega, hb2⟩
theorem w_6 {V : cg_V} (hL : V.2.2.2.1 ≤ 256) {m : kM} {i : Int} {cs sl k : Nat} (hiv : iv m) (hbu : bu cs sl k m) (hk : k ≤ 63) (hi : 0 ≤ i ∧ i + 4 ≤ ((V.2.2.2.1 : Nat) : Int)) (K : ∀ (m' : kM) (cs' sl' : Nat), iv m' → bu cs' sl' (k + 1) m' → cg_G V mL_law 11 406 (fun r => ∃ w9, r = (some (vI 1), w9)) 756 [(3, vI i), (2, vR 61), (1, vR 0), (0, vE 1)] [] (kl m') cs' sl') : cg_G V mL_law 11 406 (fun r => ∃ w9, r = (some (vI 1), w9)) 312 [(3, vI i), (2, vR 61), (1, vR 0), (0, vE 1)] [] (kl m) cs sl := by
  obtain ⟨i_I, i_W, i_P, i_4, i_D, i_K, r3, r2, r7, r8, r10, r22⟩ := hiv
  have b1 := hbu.1
  have pp1 := pp_s k
  have pp2 := pp_s (k + 1)
  have pp3 := pp_le (show k + 1 ≤ 64 by omega)
  have b2 : sl ≤ 267897 + pp (k + 1) := by rcases hbu.2 with h | h <;> omega
  refine g_aload_n (n := 1) rfl rfl ?_
  refine g_aload_n (n := 0) rfl rfl ?_
  refine g_iload_n (n := 3) rfl rfl ?_
  refine g_iconst rfl ?_
  refine g_iadd rfl ?_
  refine g_xld (by omega) (by omega) hL (show decode cL_law 317 = .ok (.iaload, 1) by decide +kernel) ?_
  have h1 := sx_rng V (i + 1)
  refine g_aload_n (n := 0) rfl rfl ?_
  refine g_iload_n (n := 3) rfl rfl ?_
  refine g_iconst rfl ?_
  refine g_iadd rfl ?_
  refine g_xld (by omega) (by omega) hL (show decode cL_law 322 = .ok (.iaload, 1) by decide +kernel) ?_
  have h2 := sx_rng V (i + 2)
  refine c_vI (i := 0) (ps := [vI (sx V (i + 2)), vI (sx V (i + 1))]) (r := []) (as := [vR 0, vI (sx V (i + 1)), vI (sx V (i + 2))]) (cs' := cs + 0) (sl' := sl + 0) rfl rfl rfl rfl rfl rfl (kl_0 _) (c_as (d := 11 - 1) (q := 406 - (5 + 19)) (by decide) (by decide) i_I (a := (sx V (i + 1))) (w := (sx V (i + 2))) (show (-2147483648) ≤ (sx V (i + 1)) ∧ (sx V (i + 1)) ≤ 2147483647 by omega) (show (-2147483648) ≤ (sx V (i + 2)) ∧ (sx V (i + 2)) ≤ 2147483647 by omega)) (by decide) (show 5 + 19 ≤ 406 by decide) (Nat.le_trans (show cs + 0 ≤ 600000 by omega) (Nat.le_of_eq lw_mc.symm)) (Nat.le_trans (show sl + 0 ≤ 7302250 by omega) (Nat.le_of_eq lw_ms.symm)) rfl rfl rfl ?_
  rintro z3 m4 ⟨rfl, p5, p6⟩
  refine g_pop rfl rfl ?_
  refine g_aload_n (n := 2) rfl rfl ?_
  refine g_aload_n (n := 0) rfl rfl ?_
  refine g_iload_n (n := 3) rfl rfl ?_
  refine g_iconst rfl ?_
  refine g_iadd rfl ?_
  refine g_xld (by omega) (by omega) hL (show decode cL_law 332 = .ok (.iaload, 1) by decide +kernel) ?_
  have h7 := sx_rng V (i + 1)
  refine g_aload_n (n := 0) rfl rfl ?_
  refine g_iload_n (n := 3) rfl rfl ?_
  refine g_iconst rfl ?_
  refine g_iadd rfl ?_
  refine g_xld (by omega) (by omega) hL (show decode cL_law 337 = .ok (.iaload, 1) by decide +kernel) ?_
  have h8 := sx_rng V (i + 2)
  refine c_vI (i := 61) (ps := [vI (sx V (i + 2)), vI (sx V (i + 1))]) (r := []) (as := [vR 61, vI (sx V (i + 1)), vI (sx V (i + 2))]) (cs' := cs + 0 + 0) (sl' := sl + 0 + 0) rfl rfl rfl rfl rfl rfl (kl_61 _) (d_as (d := 11 - 1) (q := 406 - (6 + 19)) (by decide) (by decide) i_I (a := (sx V (i + 1))) (w := (sx V (i + 2))) (show (-2147483648) ≤ (sx V (i + 1)) ∧ (sx V (i + 1)) ≤ 2147483647 by omega) (show (-2147483648) ≤ (sx V (i + 2)) ∧ (sx V (i + 2)) ≤ 2147483647 by omega)) (by decide) (show 6 + 19 ≤ 406 by decide) (Nat.le_trans (show cs + 0 + 0 ≤ 600000 by omega) (Nat.le_of_eq lw_mc.symm)) (Nat.le_trans (show sl + 0 + 0 ≤ 7302250 by omega) (Nat.le_of_eq lw_ms.symm)) rfl rfl rfl ?_
  rintro z9 m10 ⟨rfl, p11, p12⟩
  refine g_pop rfl rfl ?_
  refine g_goto rfl ?_
  have r2n := r2
  have hrl : rl m := ⟨by omega, r2n, by omega, by omega, by omega, by omega⟩
  have hb2 : sl + 0 + 0 ≤ 267897 + pp (k + 1) ∨ (m.2.2.1 0 ≠ vE 0 ∧ sl + 0 + 0 ≤ 267897 + pp (k + 1 + 1)) := by
    rcases hbu.2 with h | ⟨h1, h2⟩
    · left; omega
    · right; refine ⟨?_, by omega⟩
      exact h1
  exact K m (cs + 0 + 0) (sl + 0 + 0) ⟨i_I, i_W, i_P, i_4, i_D, i_K, hrl⟩ ⟨by omega, hb2⟩
theorem w_7 {V : cg_V} (hL : V.2.2.2.1 ≤ 256) {m : kM} {i : Int} {cs sl k : Nat} (hiv : iv m) (hbu : bu cs sl k m) (hk : k ≤ 63) (hi : 0 ≤ i ∧ i + 4 ≤ ((V.2.2.2.1 : Nat) : Int)) (K : ∀ (m' : kM) (cs' sl' : Nat), iv m' → bu cs' sl' (k + 1) m' → cg_G V mL_law 11 406 (fun r => ∃ w9, r = (some (vI 1), w9)) 756 [(3, vI i), (2, vR 61), (1, vR 0), (0, vE 1)] [] (kl m') cs' sl') : cg_G V mL_law 11 406 (fun r => ∃ w9, r = (some (vI 1), w9)) 345 [(3, vI i), (2, vR 61), (1, vR 0), (0, vE 1)] [] (kl m) cs sl := by
  obtain ⟨i_I, i_W, i_P, i_4, i_D, i_K, r3, r2, r7, r8, r10, r22⟩ := hiv
  have b1 := hbu.1
  have pp1 := pp_s k
  have pp2 := pp_s (k + 1)
  have pp3 := pp_le (show k + 1 ≤ 64 by omega)
  have b2 : sl ≤ 267897 + pp (k + 1) := by rcases hbu.2 with h | h <;> omega
  refine g_aload_n (n := 1) rfl rfl ?_
  refine g_aload_n (n := 0) rfl rfl ?_
  refine g_iload_n (n := 3) rfl rfl ?_
  refine g_iconst rfl ?_
  refine g_iadd rfl ?_
  refine g_xld (by omega) (by omega) hL (show decode cL_law 350 = .ok (.iaload, 1) by decide +kernel) ?_
  have h1 := sx_rng V (i + 1)
  refine c_vI (i := 0) (ps := [vI (sx V (i + 1))]) (r := []) (as := [vR 0, vI (sx V (i + 1))]) (cs' := cs + 0) (sl' := sl + 0) rfl rfl rfl rfl rfl rfl (kl_0 _) (c_act (d := 11 - 1) (q := 406 - (3 + 19)) (by decide) (by decide) i_I (c := (sx V (i + 1))) (show (-2147483648) ≤ (sx V (i + 1)) ∧ (sx V (i + 1)) ≤ 2147483647 by omega) i_W i_P) (by decide) (show 3 + 19 ≤ 406 by decide) (Nat.le_trans (show cs + 0 ≤ 600000 by omega) (Nat.le_of_eq lw_mc.symm)) (Nat.le_trans (show sl + 0 ≤ 7302250 by omega) (Nat.le_of_eq lw_ms.symm)) rfl rfl rfl ?_
  rintro z2 m3 ⟨hm8, hf9, p4, p5, p6, p7⟩
  have h10 : m3.1 3 = m.1 3 := hf9.1 3 rfl
  have h11 : m3.1 7 = m.1 7 := hf9.1 7 rfl
  have h12 : m3.1 8 = m.1 8 := hf9.1 8 rfl
  have h13 : m3.1 10 = m.1 10 := hf9.1 10 rfl
  have h14 : m3.1 22 = m.1 22 := hf9.1 22 rfl
  have h15 : m3.1 23 = m.1 23 := hf9.1 23 rfl
  have h16 : m3.1 25 = m.1 25 := hf9.1 25 rfl
  have h17 : m3.1 26 = m.1 26 := hf9.1 26 rfl
  have h18 : m3.1 28 = m.1 28 := hf9.1 28 rfl
  have h19 : m3.1 39 = m.1 39 := hf9.1 39 rfl
  have y2_m3 : m3.2.1 2 = m.2.1 2 := hf9.2.1 2 rfl
  have y64_m3 : m3.2.1 64 = m.2.1 64 := hf9.2.1 64 rfl
  have t20 : k4 m3 := k4_of (hf9.1 28 rfl) i_4
  have t21 : kD m3 := kD_of (hf9.1 26 rfl) (hf9.2.1 66 rfl) i_D
  have t22 : kK m3 := kK_same (hf9.1 28 rfl) (hf9.2.1 62 rfl) (hf9.2.1 63 rfl) i_K
  refine g_pop rfl rfl ?_
  refine g_aload_n (n := 2) rfl rfl ?_
  refine g_aload_n (n := 0) rfl rfl ?_
  refine g_iload_n (n := 3) rfl rfl ?_
  refine g_iconst rfl ?_
  refine g_iadd rfl ?_
  refine g_xld (by omega) (by omega) hL (show decode cL_law 360 = .ok (.iaload, 1) by decide +kernel) ?_
  have h23 := sx_rng V (i + 1)
  refine c_vI (i := 61) (ps := [vI (sx V (i + 1))]) (r := []) (as := [vR 61, vI (sx V (i + 1))]) (cs' := cs + 0 + 0) (sl' := sl + 0 + 0) rfl rfl rfl rfl rfl rfl (kl_61 _) (d_act (d := 11 - 1) (q := 406 - (2 + 19)) (by decide) (by decide) hm8 (c := (sx V (i + 1))) (show (-2147483648) ≤ (sx V (i + 1)) ∧ (sx V (i + 1)) ≤ 2147483647 by omega) t20 t21 t22) (by decide) (show 2 + 19 ≤ 406 by decide) (Nat.le_trans (show cs + 0 + 0 ≤ 600000 by omega) (Nat.le_of_eq lw_mc.symm)) (Nat.le_trans (show sl + 0 + 0 ≤ 7302250 by omega) (Nat.le_of_eq lw_ms.symm)) rfl rfl rfl ?_
  rintro z24 m25 ⟨hm31, hf32, p26, p27, p28, p29, p30⟩
  have h33 : m25.1 3 = m3.1 3 := hf32.1 3 rfl
  have h34 : m25.1 7 = m3.1 7 := hf32.1 7 rfl
  have h35 : m25.1 8 = m3.1 8 := hf32.1 8 rfl
  have h36 : m25.1 10 = m3.1 10 := hf32.1 10 rfl
  have h37 : m25.1 22 = m3.1 22 := hf32.1 22 rfl
  have h38 : m25.1 23 = m3.1 23 := hf32.1 23 rfl
  have h39 : m25.1 25 = m3.1 25 := hf32.1 25 rfl
  have h40 : m25.1 26 = m3.1 26 := hf32.1 26 rfl
  have h41 : m25.1 28 = m3.1 28 := hf32.1 28 rfl
  have h42 : m25.1 39 = m3.1 39 := hf32.1 39 rfl
  have y2_m25 : m25.2.1 2 = m3.2.1 2 := hf32.2.1 2 rfl
  have y64_m25 : m25.2.1 64 = m3.2.1 64 := hf32.2.1 64 rfl
  have t43 : kW m25 := kW_of (hf32.2.1 18 rfl) p6
  have t44 : kP m25 := kP_fr hf32 rfl rfl p7
  have R_m25 : m25.2.2.1 0 = m3.2.2.1 0 := by rw [hf32.2.2]
  refine g_pop rfl rfl ?_
  refine g_goto rfl ?_
  have r2n : m25.2.1 2 = m25.2.1 64 := by rw [y2_m25, y2_m3, y64_m25, y64_m3, r2]
  have hrl : rl m25 := ⟨by omega, r2n, by omega, by omega, by omega, by omega⟩
  exact K m25 (cs + 0 + 0) (sl + 0 + 0) ⟨hm31, t43, t44, p28, p29, p30, hrl⟩ ⟨by omega, Or.inl (by omega)⟩
theorem w_8 {V : cg_V} (hL : V.2.2.2.1 ≤ 256) {m : kM} {i : Int} {cs sl k : Nat} (hiv : iv m) (hbu : bu cs sl k m) (hk : k ≤ 63) (hi : 0 ≤ i ∧ i + 4 ≤ ((V.2.2.2.1 : Nat) : Int)) (K : ∀ (m' : kM) (cs' sl' : Nat), iv m' → bu cs' sl' (k + 1) m' → cg_G V mL_law 11 406 (fun r => ∃ w9, r = (some (vI 1), w9)) 756 [(3, vI i), (2, vR 61), (1, vR 0), (0, vE 1)] [] (kl m') cs' sl') : cg_G V mL_law 11 406 (fun r => ∃ w9, r = (some (vI 1), w9)) 368 [(3, vI i), (2, vR 61), (1, vR 0), (0, vE 1)] [] (kl m) cs sl := by
  obtain ⟨i_I, i_W, i_P, i_4, i_D, i_K, r3, r2, r7, r8, r10, r22⟩ := hiv
  have b1 := hbu.1
  have pp1 := pp_s k
  have pp2 := pp_s (k + 1)
  have pp3 := pp_le (show k + 1 ≤ 64 by omega)
  have b2 : sl ≤ 267897 + pp (k + 1) := by rcases hbu.2 with h | h <;> omega
  refine g_aload_n (n := 1) rfl rfl ?_
  refine g_aload_n (n := 0) rfl rfl ?_
  refine g_iload_n (n := 3) rfl rfl ?_
  refine g_iconst rfl ?_
  refine g_iadd rfl ?_
  refine g_xld (by omega) (by omega) hL (show decode cL_law 373 = .ok (.iaload, 1) by decide +kernel) ?_
  have h1 := sx_rng V (i + 1)
  refine g_aload_n (n := 0) rfl rfl ?_
  refine g_iload_n (n := 3) rfl rfl ?_
  refine g_iconst rfl ?_
  refine g_iadd rfl ?_
  refine g_xld (by omega) (by omega) hL (show decode cL_law 378 = .ok (.iaload, 1) by decide +kernel) ?_
  have h2 := sx_rng V (i + 2)
  refine c_vI (i := 0) (ps := [vI (sx V (i + 2)), vI (sx V (i + 1))]) (r := []) (as := [vR 0, vI (sx V (i + 1)), vI (sx V (i + 2))]) (cs' := cs + 0) (sl' := sl + 0) rfl rfl rfl rfl rfl rfl (kl_0 _) (c_guard (d := 11 - 1) (q := 406 - (3 + 19)) (by decide) (by decide) i_I (g := (sx V (i + 1))) (w := (sx V (i + 2))) (show (-2147483648) ≤ (sx V (i + 1)) ∧ (sx V (i + 1)) ≤ 2147483647 by omega) (show (-2147483648) ≤ (sx V (i + 2)) ∧ (sx V (i + 2)) ≤ 2147483647 by omega)) (by decide) (show 3 + 19 ≤ 406 by decide) (Nat.le_trans (show cs + 0 ≤ 600000 by omega) (Nat.le_of_eq lw_mc.symm)) (Nat.le_trans (show sl + 0 ≤ 7302250 by omega) (Nat.le_of_eq lw_ms.symm)) rfl rfl rfl ?_
  rintro z3 m4 ⟨rfl, p5, p6⟩
  refine g_pop rfl rfl ?_
  refine g_aload_n (n := 2) rfl rfl ?_
  refine g_aload_n (n := 0) rfl rfl ?_
  refine g_iload_n (n := 3) rfl rfl ?_
  refine g_iconst rfl ?_
  refine g_iadd rfl ?_
  refine g_xld (by omega) (by omega) hL (show decode cL_law 388 = .ok (.iaload, 1) by decide +kernel) ?_
  have h7 := sx_rng V (i + 1)
  refine g_aload_n (n := 0) rfl rfl ?_
  refine g_iload_n (n := 3) rfl rfl ?_
  refine g_iconst rfl ?_
  refine g_iadd rfl ?_
  refine g_xld (by omega) (by omega) hL (show decode cL_law 393 = .ok (.iaload, 1) by decide +kernel) ?_
  have h8 := sx_rng V (i + 2)
  refine c_vI (i := 61) (ps := [vI (sx V (i + 2)), vI (sx V (i + 1))]) (r := []) (as := [vR 61, vI (sx V (i + 1)), vI (sx V (i + 2))]) (cs' := cs + 0 + 0) (sl' := sl + 0 + 0) rfl rfl rfl rfl rfl rfl (kl_61 _) (d_guard (d := 11 - 1) (q := 406 - (5 + 19)) (by decide) (by decide) i_I (g := (sx V (i + 1))) (w := (sx V (i + 2))) (show (-2147483648) ≤ (sx V (i + 1)) ∧ (sx V (i + 1)) ≤ 2147483647 by omega) (show (-2147483648) ≤ (sx V (i + 2)) ∧ (sx V (i + 2)) ≤ 2147483647 by omega) i_4 i_D i_K) (by decide) (show 5 + 19 ≤ 406 by decide) (Nat.le_trans (show cs + 0 + 0 ≤ 600000 by omega) (Nat.le_of_eq lw_mc.symm)) (Nat.le_trans (show sl + 0 + 0 ≤ 7302250 by omega) (Nat.le_of_eq lw_ms.symm)) rfl rfl rfl ?_
  rintro z9 m10 ⟨hm16, hf17, p11, p12, p13, p14, p15⟩
  have h18 : m10.1 3 = m.1 3 := hf17.1 3 rfl
  have h19 : m10.1 7 = m.1 7 := hf17.1 7 rfl
  have h20 : m10.1 8 = m.1 8 := hf17.1 8 rfl
  have h21 : m10.1 10 = m.1 10 := hf17.1 10 rfl
  have h22 : m10.1 22 = m.1 22 := hf17.1 22 rfl
  have h23 : m10.1 23 = m.1 23 := hf17.1 23 rfl
  have h24 : m10.1 25 = m.1 25 := hf17.1 25 rfl
  have h25 : m10.1 26 = m.1 26 := hf17.1 26 rfl
  have h26 : m10.1 28 = m.1 28 := hf17.1 28 rfl
  have h27 : m10.1 39 = m.1 39 := hf17.1 39 rfl
  have y2_m10 : m10.2.1 2 = m.2.1 2 := hf17.2.1 2 rfl
  have y64_m10 : m10.2.1 64 = m.2.1 64 := hf17.2.1 64 rfl
  have t28 : kW m10 := kW_of (hf17.2.1 18 rfl) i_W
  have t29 : kP m10 := kP_fr hf17 rfl rfl i_P
  have R_m10 : m10.2.2.1 0 = m.2.2.1 0 := by rw [hf17.2.2]
  refine g_pop rfl rfl ?_
  refine g_goto rfl ?_
  have r2n : m10.2.1 2 = m10.2.1 64 := by rw [y2_m10, y64_m10, r2]
  have hrl : rl m10 := ⟨by omega, r2n, by omega, by omega, by omega, by omega⟩
  have hb2 : sl + 0 + 0 ≤ 267897 + pp (k + 1) ∨ (m10.2.2.1 0 ≠ vE 0 ∧ sl + 0 + 0 ≤ 267897 + pp (k + 1 + 1)) := by
    rcases hbu.2 with h | ⟨h1, h2⟩
    · left; omega
    · right; refine ⟨?_, by omega⟩
      have u30 : m10.2.2.1 0 ≠ vE 0 := by rw [R_m10]; exact h1
      exact u30
  exact K m10 (cs + 0 + 0) (sl + 0 + 0) ⟨hm16, t28, t29, p13, p14, p15, hrl⟩ ⟨by omega, hb2⟩
theorem w_9 {V : cg_V} (hL : V.2.2.2.1 ≤ 256) {m : kM} {i : Int} {cs sl k : Nat} (hiv : iv m) (hbu : bu cs sl k m) (hk : k ≤ 63) (hi : 0 ≤ i ∧ i + 4 ≤ ((V.2.2.2.1 : Nat) : Int)) (K : ∀ (m' : kM) (cs' sl' : Nat), iv m' → bu cs' sl' (k + 1) m' → cg_G V mL_law 11 406 (fun r => ∃ w9, r = (some (vI 1), w9)) 756 [(3, vI i), (2, vR 61), (1, vR 0), (0, vE 1)] [] (kl m') cs' sl') : cg_G V mL_law 11 406 (fun r => ∃ w9, r = (some (vI 1), w9)) 401 [(3, vI i), (2, vR 61), (1, vR 0), (0, vE 1)] [] (kl m) cs sl := by
  obtain ⟨i_I, i_W, i_P, i_4, i_D, i_K, r3, r2, r7, r8, r10, r22⟩ := hiv
  have b1 := hbu.1
  have pp1 := pp_s k
  have pp2 := pp_s (k + 1)
  have pp3 := pp_le (show k + 1 ≤ 64 by omega)
  have b2 : sl ≤ 267897 + pp (k + 1) := by rcases hbu.2 with h | h <;> omega
  refine g_aload_n (n := 1) rfl rfl ?_
  refine g_aload_n (n := 0) rfl rfl ?_
  refine g_iload_n (n := 3) rfl rfl ?_
  refine g_iconst rfl ?_
  refine g_iadd rfl ?_
  refine g_xld (by omega) (by omega) hL (show decode cL_law 406 = .ok (.iaload, 1) by decide +kernel) ?_
  have h1 := sx_rng V (i + 1)
  refine c_vI (i := 0) (ps := [vI (sx V (i + 1))]) (r := []) (as := [vR 0, vI (sx V (i + 1))]) (cs' := cs + 2) (sl' := sl + 64514) rfl rfl rfl rfl rfl rfl (kl_0 _) (c_fewest (d := 11 - 1) (q := 406 - (2 + 19)) (by decide) (by decide) i_I (i := (sx V (i + 1))) (show (-2147483648) ≤ (sx V (i + 1)) ∧ (sx V (i + 1)) ≤ 2147483647 by omega) i_W i_P) (by decide) (show 2 + 19 ≤ 406 by decide) (Nat.le_trans (show cs + 2 ≤ 600000 by omega) (Nat.le_of_eq lw_mc.symm)) (Nat.le_trans (show sl + 64514 ≤ 7302250 by omega) (Nat.le_of_eq lw_ms.symm)) rfl rfl rfl ?_
  rintro z2 m3 ⟨hm9, hf10, p4, p5, p6, p7, p8⟩
  have h11 : m3.1 3 = m.1 3 := hf10.1 3 rfl
  have h12 : m3.1 7 = m.1 7 := hf10.1 7 rfl
  have h13 : m3.1 8 = m.1 8 := hf10.1 8 rfl
  have h14 : m3.1 10 = m.1 10 := hf10.1 10 rfl
  have h15 : m3.1 22 = m.1 22 := hf10.1 22 rfl
  have h16 : m3.1 23 = m.1 23 := hf10.1 23 rfl
  have h17 : m3.1 25 = m.1 25 := hf10.1 25 rfl
  have h18 : m3.1 26 = m.1 26 := hf10.1 26 rfl
  have h19 : m3.1 28 = m.1 28 := hf10.1 28 rfl
  have h20 : m3.1 39 = m.1 39 := hf10.1 39 rfl
  have y2_m3 : m3.2.1 2 = m.2.1 2 := hf10.2.1 2 rfl
  have y64_m3 : m3.2.1 64 = m.2.1 64 := hf10.2.1 64 rfl
  have t21 : k4 m3 := k4_of (hf10.1 28 rfl) i_4
  have t22 : kD m3 := kD_of (hf10.1 26 rfl) (hf10.2.1 66 rfl) i_D
  have t23 : kK m3 := kK_same (hf10.1 28 rfl) (hf10.2.1 62 rfl) (hf10.2.1 63 rfl) i_K
  refine g_pop rfl rfl ?_
  refine g_aload_n (n := 2) rfl rfl ?_
  refine g_aload_n (n := 0) rfl rfl ?_
  refine g_iload_n (n := 3) rfl rfl ?_
  refine g_iconst rfl ?_
  refine g_iadd rfl ?_
  refine g_xld (by omega) (by omega) hL (show decode cL_law 416 = .ok (.iaload, 1) by decide +kernel) ?_
  have h24 := sx_rng V (i + 1)
  refine c_vI (i := 61) (ps := [vI (sx V (i + 1))]) (r := []) (as := [vR 61, vI (sx V (i + 1))]) (cs' := cs + 2 + 0) (sl' := sl + 64514 + 0) rfl rfl rfl rfl rfl rfl (kl_61 _) (d_fewest (d := 11 - 1) (q := 406 - (2 + 19)) (by decide) (by decide) hm9 (i := (sx V (i + 1))) (show (-2147483648) ≤ (sx V (i + 1)) ∧ (sx V (i + 1)) ≤ 2147483647 by omega) t21 t22 t23) (by decide) (show 2 + 19 ≤ 406 by decide) (Nat.le_trans (show cs + 2 + 0 ≤ 600000 by omega) (Nat.le_of_eq lw_mc.symm)) (Nat.le_trans (show sl + 64514 + 0 ≤ 7302250 by omega) (Nat.le_of_eq lw_ms.symm)) rfl rfl rfl ?_
  rintro z25 m26 ⟨hm32, hf33, p27, p28, p29, p30, p31⟩
  have h34 : m26.1 3 = m3.1 3 := hf33.1 3 rfl
  have h35 : m26.1 7 = m3.1 7 := hf33.1 7 rfl
  have h36 : m26.1 8 = m3.1 8 := hf33.1 8 rfl
  have h37 : m26.1 10 = m3.1 10 := hf33.1 10 rfl
  have h38 : m26.1 22 = m3.1 22 := hf33.1 22 rfl
  have h39 : m26.1 23 = m3.1 23 := hf33.1 23 rfl
  have h40 : m26.1 25 = m3.1 25 := hf33.1 25 rfl
  have h41 : m26.1 26 = m3.1 26 := hf33.1 26 rfl
  have h42 : m26.1 28 = m3.1 28 := hf33.1 28 rfl
  have h43 : m26.1 39 = m3.1 39 := hf33.1 39 rfl
  have y2_m26 : m26.2.1 2 = m3.2.1 2 := hf33.2.1 2 rfl
  have y64_m26 : m26.2.1 64 = m3.2.1 64 := hf33.2.1 64 rfl
  have t44 : kW m26 := kW_of (hf33.2.1 18 rfl) p6
  have t45 : kP m26 := kP_fr hf33 rfl rfl p7
  have R_m26 : m26.2.2.1 0 = m3.2.2.1 0 := by rw [hf33.2.2]
  refine g_pop rfl rfl ?_
  refine g_goto rfl ?_
  have r2n : m26.2.1 2 = m26.2.1 64 := by rw [y2_m26, y2_m3, y64_m26, y64_m3, r2]
  have hrl : rl m26 := ⟨by omega, r2n, by omega, by omega, by omega, by omega⟩
  have hb2 : sl + 64514 + 0 ≤ 267897 + pp (k + 1) ∨ (m26.2.2.1 0 ≠ vE 0 ∧ sl + 64514 + 0 ≤ 267897 + pp (k + 1 + 1)) := by
    rcases hbu.2 with h | ⟨h1, h2⟩
    · left; omega
    · right; refine ⟨?_, by omega⟩
      have u46 : m3.2.2.1 0 ≠ vE 0 := p8.elim (fun e => by rw [e]; exact h1) id
      have u47 : m26.2.2.1 0 ≠ vE 0 := by rw [R_m26]; exact u46
      exact u47
  exact K m26 (cs + 2 + 0) (sl + 64514 + 0) ⟨hm32, t44, t45, p29, p30, p31, hrl⟩ ⟨by omega, hb2⟩
theorem w_10 {V : cg_V} (hL : V.2.2.2.1 ≤ 256) {m : kM} {i : Int} {cs sl k : Nat} (hiv : iv m) (hbu : bu cs sl k m) (hk : k ≤ 63) (hi : 0 ≤ i ∧ i + 4 ≤ ((V.2.2.2.1 : Nat) : Int)) (K : ∀ (m' : kM) (cs' sl' : Nat), iv m' → bu cs' sl' (k + 1) m' → cg_G V mL_law 11 406 (fun r => ∃ w9, r = (some (vI 1), w9)) 756 [(3, vI i), (2, vR 61), (1, vR 0), (0, vE 1)] [] (kl m') cs' sl') : cg_G V mL_law 11 406 (fun r => ∃ w9, r = (some (vI 1), w9)) 424 [(3, vI i), (2, vR 61), (1, vR 0), (0, vE 1)] [] (kl m) cs sl := by
  obtain ⟨i_I, i_W, i_P, i_4, i_D, i_K, r3, r2, r7, r8, r10, r22⟩ := hiv
  have b1 := hbu.1
  have pp1 := pp_s k
  have pp2 := pp_s (k + 1)
  have pp3 := pp_le (show k + 1 ≤ 64 by omega)
  have b2 : sl ≤ 267897 + pp (k + 1) := by rcases hbu.2 with h | h <;> omega
  refine g_aload_n (n := 1) rfl rfl ?_
  refine g_aload_n (n := 0) rfl rfl ?_
  refine g_iload_n (n := 3) rfl rfl ?_
  refine g_iconst rfl ?_
  refine g_iadd rfl ?_
  refine g_xld (by omega) (by omega) hL (show decode cL_law 429 = .ok (.iaload, 1) by decide +kernel) ?_
  have h1 := sx_rng V (i + 1)
  refine c_vI (i := 0) (ps := [vI (sx V (i + 1))]) (r := []) (as := [vR 0, vI (sx V (i + 1))]) (cs' := cs + 2) (sl' := sl + 64514) rfl rfl rfl rfl rfl rfl (kl_0 _) (c_by (d := 11 - 1) (q := 406 - (3 + 19)) (by decide) (by decide) i_I (s := (sx V (i + 1))) (show (-2147483648) ≤ (sx V (i + 1)) ∧ (sx V (i + 1)) ≤ 2147483647 by omega) i_W i_P) (by decide) (show 3 + 19 ≤ 406 by decide) (Nat.le_trans (show cs + 2 ≤ 600000 by omega) (Nat.le_of_eq lw_mc.symm)) (Nat.le_trans (show sl + 64514 ≤ 7302250 by omega) (Nat.le_of_eq lw_ms.symm)) rfl rfl rfl ?_
  rintro z2 m3 ⟨hm9, hf10, p4, p5, p6, p7, p8⟩
  have h11 : m3.1 3 = m.1 3 := hf10.1 3 rfl
  have h12 : m3.1 7 = m.1 7 := hf10.1 7 rfl
  have h13 : m3.1 8 = m.1 8 := hf10.1 8 rfl
  have h14 : m3.1 10 = m.1 10 := hf10.1 10 rfl
  have h15 : m3.1 22 = m.1 22 := hf10.1 22 rfl
  have h16 : m3.1 23 = m.1 23 := hf10.1 23 rfl
  have h17 : m3.1 25 = m.1 25 := hf10.1 25 rfl
  have h18 : m3.1 26 = m.1 26 := hf10.1 26 rfl
  have h19 : m3.1 28 = m.1 28 := hf10.1 28 rfl
  have h20 : m3.1 39 = m.1 39 := hf10.1 39 rfl
  have y2_m3 : m3.2.1 2 = m.2.1 2 := hf10.2.1 2 rfl
  have y64_m3 : m3.2.1 64 = m.2.1 64 := hf10.2.1 64 rfl
  have t21 : k4 m3 := k4_of (hf10.1 28 rfl) i_4
  have t22 : kD m3 := kD_of (hf10.1 26 rfl) (hf10.2.1 66 rfl) i_D
  have t23 : kK m3 := kK_same (hf10.1 28 rfl) (hf10.2.1 62 rfl) (hf10.2.1 63 rfl) i_K
  refine g_pop rfl rfl ?_
  refine g_aload_n (n := 2) rfl rfl ?_
  refine g_aload_n (n := 0) rfl rfl ?_
  refine g_iload_n (n := 3) rfl rfl ?_
  refine g_iconst rfl ?_
  refine g_iadd rfl ?_
  refine g_xld (by omega) (by omega) hL (show decode cL_law 439 = .ok (.iaload, 1) by decide +kernel) ?_
  have h24 := sx_rng V (i + 1)
  refine c_vI (i := 61) (ps := [vI (sx V (i + 1))]) (r := []) (as := [vR 61, vI (sx V (i + 1))]) (cs' := cs + 2 + 0) (sl' := sl + 64514 + 0) rfl rfl rfl rfl rfl rfl (kl_61 _) (d_by (d := 11 - 1) (q := 406 - (2 + 19)) (by decide) (by decide) hm9 (s := (sx V (i + 1))) (show (-2147483648) ≤ (sx V (i + 1)) ∧ (sx V (i + 1)) ≤ 2147483647 by omega) t21 t22 t23) (by decide) (show 2 + 19 ≤ 406 by decide) (Nat.le_trans (show cs + 2 + 0 ≤ 600000 by omega) (Nat.le_of_eq lw_mc.symm)) (Nat.le_trans (show sl + 64514 + 0 ≤ 7302250 by omega) (Nat.le_of_eq lw_ms.symm)) rfl rfl rfl ?_
  rintro z25 m26 ⟨hm32, hf33, p27, p28, p29, p30, p31⟩
  have h34 : m26.1 3 = m3.1 3 := hf33.1 3 rfl
  have h35 : m26.1 7 = m3.1 7 := hf33.1 7 rfl
  have h36 : m26.1 8 = m3.1 8 := hf33.1 8 rfl
  have h37 : m26.1 10 = m3.1 10 := hf33.1 10 rfl
  have h38 : m26.1 22 = m3.1 22 := hf33.1 22 rfl
  have h39 : m26.1 23 = m3.1 23 := hf33.1 23 rfl
  have h40 : m26.1 25 = m3.1 25 := hf33.1 25 rfl
  have h41 : m26.1 26 = m3.1 26 := hf33.1 26 rfl
  have h42 : m26.1 28 = m3.1 28 := hf33.1 28 rfl
  have h43 : m26.1 39 = m3.1 39 := hf33.1 39 rfl
  have y2_m26 : m26.2.1 2 = m3.2.1 2 := hf33.2.1 2 rfl
  have y64_m26 : m26.2.1 64 = m3.2.1 64 := hf33.2.1 64 rfl
  have t44 : kW m26 := kW_of (hf33.2.1 18 rfl) p6
  have t45 : kP m26 := kP_fr hf33 rfl rfl p7
  have R_m26 : m26.2.2.1 0 = m3.2.2.1 0 := by rw [hf33.2.2]
  refine g_pop rfl rfl ?_
  refine g_goto rfl ?_
  have r2n : m26.2.1 2 = m26.2.1 64 := by rw [y2_m26, y2_m3, y64_m26, y64_m3, r2]
  have hrl : rl m26 := ⟨by omega, r2n, by omega, by omega, by omega, by omega⟩
  have hb2 : sl + 64514 + 0 ≤ 267897 + pp (k + 1) ∨ (m26.2.2.1 0 ≠ vE 0 ∧ sl + 64514 + 0 ≤ 267897 + pp (k + 1 + 1)) := by
    rcases hbu.2 with h | ⟨h1, h2⟩
    · left; omega
    · right; refine ⟨?_, by omega⟩
      have u46 : m3.2.2.1 0 ≠ vE 0 := p8.elim (fun e => by rw [e]; exact h1) id
      have u47 : m26.2.2.1 0 ≠ vE 0 := by rw [R_m26]; exact u46
      exact u47
  exact K m26 (cs + 2 + 0) (sl + 64514 + 0) ⟨hm32, t44, t45, p29, p30, p31, hrl⟩ ⟨by omega, hb2⟩
theorem w_111 {V : cg_V} (hL : V.2.2.2.1 ≤ 256) {m : kM} {i : Int} {cs sl k : Nat} (hiv : iv m) (hbu : bu cs sl k m) (hk : k ≤ 63) (hi : 0 ≤ i ∧ i + 4 ≤ ((V.2.2.2.1 : Nat) : Int)) (hv1 : (sx V (i + 1) < 0 ∨ m.1 8 ≤ sx V (i + 1)) ∨ pth m (m.2.2.1 0)) (K : ∀ (m' : kM) (cs' sl' : Nat), iv m' → bu cs' sl' (k + 1) m' → cg_G V mL_law 11 406 (fun r => ∃ w9, r = (some (vI 1), w9)) 756 [(3, vI i), (2, vR 61), (1, vR 0), (0, vE 1)] [] (kl m') cs' sl') : cg_G V mL_law 11 406 (fun r => ∃ w9, r = (some (vI 1), w9)) 447 [(3, vI i), (2, vR 61), (1, vR 0), (0, vE 1)] [] (kl m) cs sl := by
  obtain ⟨i_I, i_W, i_P, i_4, i_D, i_K, r3, r2, r7, r8, r10, r22⟩ := hiv
  have b1 := hbu.1
  have pp1 := pp_s k
  have pp2 := pp_s (k + 1)
  have pp3 := pp_le (show k + 1 ≤ 64 by omega)
  have b2 : sl ≤ 267897 + pp (k + 1) := by rcases hbu.2 with h | h <;> omega
  refine g_aload_n (n := 1) rfl rfl ?_
  refine g_aload_n (n := 0) rfl rfl ?_
  refine g_iload_n (n := 3) rfl rfl ?_
  refine g_iconst rfl ?_
  refine g_iadd rfl ?_
  refine g_xld (by omega) (by omega) hL (show decode cL_law 452 = .ok (.iaload, 1) by decide +kernel) ?_
  have h1 := sx_rng V (i + 1)
  refine c_wI (me3 := mX9_worth1) (me2 := mX9_worth) rfl rfl rfl rfl (i := 0) (ps := [vI (sx V (i + 1))]) (r := []) (as := [vR 0, vI (sx V (i + 1))]) (cs' := cs + 2) (sl' := sl + 64514) rfl rfl rfl rfl rfl rfl (kl_0 _) (c_worth1 (d := 11 - 1) (q := 406 - (3 + 19)) (by decide) (by decide) i_I (a := (sx V (i + 1))) (show (-2147483648) ≤ (sx V (i + 1)) ∧ (sx V (i + 1)) ≤ 2147483647 by omega) i_W hv1) (by decide) (show 3 + 19 ≤ 406 by decide) (Nat.le_trans (show cs + 2 ≤ 600000 by omega) (Nat.le_of_eq lw_mc.symm)) (Nat.le_trans (show sl + 64514 ≤ 7302250 by omega) (Nat.le_of_eq lw_ms.symm)) rfl rfl rfl ?_
  rintro z2 m3 ⟨hm8, hf9, p4, p5, p6, p7⟩
  have h10 : m3.1 3 = m.1 3 := hf9.1 3 rfl
  have h11 : m3.1 7 = m.1 7 := hf9.1 7 rfl
  have h12 : m3.1 8 = m.1 8 := hf9.1 8 rfl
  have h13 : m3.1 10 = m.1 10 := hf9.1 10 rfl
  have h14 : m3.1 22 = m.1 22 := hf9.1 22 rfl
  have h15 : m3.1 23 = m.1 23 := hf9.1 23 rfl
  have h16 : m3.1 25 = m.1 25 := hf9.1 25 rfl
  have h17 : m3.1 26 = m.1 26 := hf9.1 26 rfl
  have h18 : m3.1 28 = m.1 28 := hf9.1 28 rfl
  have h19 : m3.1 39 = m.1 39 := hf9.1 39 rfl
  have y2_m3 : m3.2.1 2 = m.2.1 2 := hf9.2.1 2 rfl
  have y64_m3 : m3.2.1 64 = m.2.1 64 := hf9.2.1 64 rfl
  have t20 : kP m3 := kP_fs hf9 i_P
  have t21 : k4 m3 := k4_of (hf9.1 28 rfl) i_4
  have t22 : kD m3 := kD_of (hf9.1 26 rfl) (hf9.2.1 66 rfl) i_D
  have t23 : kK m3 := kK_same (hf9.1 28 rfl) (hf9.2.1 62 rfl) (hf9.2.1 63 rfl) i_K
  have R_m3 : m3.2.2.1 0 = m.2.2.1 0 := congrFun hf9.2.2.2 0
  refine g_pop rfl rfl ?_
  refine g_aload_n (n := 2) rfl rfl ?_
  refine g_aload_n (n := 0) rfl rfl ?_
  refine g_iload_n (n := 3) rfl rfl ?_
  refine g_iconst rfl ?_
  refine g_iadd rfl ?_
  refine g_xld (by omega) (by omega) hL (show decode cL_law 462 = .ok (.iaload, 1) by decide +kernel) ?_
  have h24 := sx_rng V (i + 1)
  refine c_vI (i := 61) (ps := [vI (sx V (i + 1))]) (r := []) (as := [vR 61, vI (sx V (i + 1))]) (cs' := cs + 2 + 0) (sl' := sl + 64514 + 0) rfl rfl rfl rfl rfl rfl (kl_61 _) (d_worth (d := 11 - 1) (q := 406 - (5 + 19)) (by decide) (by decide) hm8 (a := (sx V (i + 1))) (show (-2147483648) ≤ (sx V (i + 1)) ∧ (sx V (i + 1)) ≤ 2147483647 by omega) t21 t22 t23) (by decide) (show 5 + 19 ≤ 406 by decide) (Nat.le_trans (show cs + 2 + 0 ≤ 600000 by omega) (Nat.le_of_eq lw_mc.symm)) (Nat.le_trans (show sl + 64514 + 0 ≤ 7302250 by omega) (Nat.le_of_eq lw_ms.symm)) rfl rfl rfl ?_
  rintro z25 m26 ⟨hm33, hf34, p27, p28, p29, p30, p31, p32⟩
  have h35 : m26.1 3 = m3.1 3 := hf34.1 3 rfl
  have h36 : m26.1 7 = m3.1 7 := hf34.1 7 rfl
  have h37 : m26.1 8 = m3.1 8 := hf34.1 8 rfl
  have h38 : m26.1 10 = m3.1 10 := hf34.1 10 rfl
  have h39 : m26.1 22 = m3.1 22 := hf34.1 22 rfl
  have h40 : m26.1 23 = m3.1 23 := hf34.1 23 rfl
  have h41 : m26.1 25 = m3.1 25 := hf34.1 25 rfl
  have h42 : m26.1 26 = m3.1 26 := hf34.1 26 rfl
  have h43 : m26.1 28 = m3.1 28 := hf34.1 28 rfl
  have h44 : m26.1 39 = m3.1 39 := hf34.1 39 rfl
  have y2_m26 : m26.2.1 2 = m3.2.1 2 := hf34.2.1 2 rfl
  have y64_m26 : m26.2.1 64 = m3.2.1 64 := hf34.2.1 64 rfl
  have t45 : kW m26 := kW_of (hf34.2.1 18 rfl) p7
  have t46 : kP m26 := kP_fr hf34 rfl rfl t20
  have R_m26 : m26.2.2.1 0 = m3.2.2.1 0 := by rw [hf34.2.2]
  refine g_pop rfl rfl ?_
  refine g_goto rfl ?_
  have r2n : m26.2.1 2 = m26.2.1 64 := by rw [y2_m26, y2_m3, y64_m26, y64_m3, r2]
  have hrl : rl m26 := ⟨by omega, r2n, by omega, by omega, by omega, by omega⟩
  have hb2 : sl + 64514 + 0 ≤ 267897 + pp (k + 1) ∨ (m26.2.2.1 0 ≠ vE 0 ∧ sl + 64514 + 0 ≤ 267897 + pp (k + 1 + 1)) := by
    rcases hbu.2 with h | ⟨h1, h2⟩
    · left; omega
    · right; refine ⟨?_, by omega⟩
      have u47 : m3.2.2.1 0 ≠ vE 0 := by rw [R_m3]; exact h1
      have u48 : m26.2.2.1 0 ≠ vE 0 := by rw [R_m26]; exact u47
      exact u48
  exact K m26 (cs + 2 + 0) (sl + 64514 + 0) ⟨hm33, t45, t46, p30, p31, p32, hrl⟩ ⟨by omega, hb2⟩
theorem w_112 {V : cg_V} (hL : V.2.2.2.1 ≤ 256) {m : kM} {i : Int} {cs sl k : Nat} (hiv : iv m) (hbu : bu cs sl k m) (hk : k ≤ 63) (hi : 0 ≤ i ∧ i + 4 ≤ ((V.2.2.2.1 : Nat) : Int)) (hvd : 0 ≤ sx V (i + 1) ∧ sx V (i + 1) < m.1 8) (hn0 : sl ≤ 267897 + pp k) (K : ∀ (m' : kM) (cs' sl' : Nat), iv m' → bu cs' sl' (k + 1) m' → cg_G V mL_law 11 406 (fun r => ∃ w9, r = (some (vI 1), w9)) 756 [(3, vI i), (2, vR 61), (1, vR 0), (0, vE 1)] [] (kl m') cs' sl') : cg_G V mL_law 11 406 (fun r => ∃ w9, r = (some (vI 1), w9)) 447 [(3, vI i), (2, vR 61), (1, vR 0), (0, vE 1)] [] (kl m) cs sl := by
  obtain ⟨i_I, i_W, i_P, i_4, i_D, i_K, r3, r2, r7, r8, r10, r22⟩ := hiv
  have b1 := hbu.1
  have pp1 := pp_s k
  have pp2 := pp_s (k + 1)
  have pp3 := pp_le (show k + 1 ≤ 64 by omega)
  have b2 : sl ≤ 267897 + pp (k + 1) := by rcases hbu.2 with h | h <;> omega
  refine g_aload_n (n := 1) rfl rfl ?_
  refine g_aload_n (n := 0) rfl rfl ?_
  refine g_iload_n (n := 3) rfl rfl ?_
  refine g_iconst rfl ?_
  refine g_iadd rfl ?_
  refine g_xld (by omega) (by omega) hL (show decode cL_law 452 = .ok (.iaload, 1) by decide +kernel) ?_
  have h1 := sx_rng V (i + 1)
  refine c_vI (i := 0) (ps := [vI (sx V (i + 1))]) (r := []) (as := [vR 0, vI (sx V (i + 1))]) (cs' := cs + 4) (sl' := sl + 129028) rfl rfl rfl rfl rfl rfl (kl_0 _) (c_worth (d := 11 - 1) (q := 406 - (3 + 19)) (by decide) (by decide) i_I (a := (sx V (i + 1))) (show (-2147483648) ≤ (sx V (i + 1)) ∧ (sx V (i + 1)) ≤ 2147483647 by omega) i_W i_P hvd) (by decide) (show 3 + 19 ≤ 406 by decide) (Nat.le_trans (show cs + 4 ≤ 600000 by omega) (Nat.le_of_eq lw_mc.symm)) (Nat.le_trans (show sl + 129028 ≤ 7302250 by omega) (Nat.le_of_eq lw_ms.symm)) rfl rfl rfl ?_
  rintro z2 m3 ⟨hm10, hf11, p4, p5, p6, p7, p8, p9⟩
  have h12 : m3.1 3 = m.1 3 := hf11.1 3 rfl
  have h13 : m3.1 7 = m.1 7 := hf11.1 7 rfl
  have h14 : m3.1 8 = m.1 8 := hf11.1 8 rfl
  have h15 : m3.1 10 = m.1 10 := hf11.1 10 rfl
  have h16 : m3.1 22 = m.1 22 := hf11.1 22 rfl
  have h17 : m3.1 23 = m.1 23 := hf11.1 23 rfl
  have h18 : m3.1 25 = m.1 25 := hf11.1 25 rfl
  have h19 : m3.1 26 = m.1 26 := hf11.1 26 rfl
  have h20 : m3.1 28 = m.1 28 := hf11.1 28 rfl
  have h21 : m3.1 39 = m.1 39 := hf11.1 39 rfl
  have y2_m3 : m3.2.1 2 = m.2.1 2 := hf11.2.1 2 rfl
  have y64_m3 : m3.2.1 64 = m.2.1 64 := hf11.2.1 64 rfl
  have t22 : k4 m3 := k4_of (hf11.1 28 rfl) i_4
  have t23 : kD m3 := kD_of (hf11.1 26 rfl) (hf11.2.1 66 rfl) i_D
  have t24 : kK m3 := kK_same (hf11.1 28 rfl) (hf11.2.1 62 rfl) (hf11.2.1 63 rfl) i_K
  refine g_pop rfl rfl ?_
  refine g_aload_n (n := 2) rfl rfl ?_
  refine g_aload_n (n := 0) rfl rfl ?_
  refine g_iload_n (n := 3) rfl rfl ?_
  refine g_iconst rfl ?_
  refine g_iadd rfl ?_
  refine g_xld (by omega) (by omega) hL (show decode cL_law 462 = .ok (.iaload, 1) by decide +kernel) ?_
  have h25 := sx_rng V (i + 1)
  refine c_vI (i := 61) (ps := [vI (sx V (i + 1))]) (r := []) (as := [vR 61, vI (sx V (i + 1))]) (cs' := cs + 4 + 0) (sl' := sl + 129028 + 0) rfl rfl rfl rfl rfl rfl (kl_61 _) (d_worth (d := 11 - 1) (q := 406 - (5 + 19)) (by decide) (by decide) hm10 (a := (sx V (i + 1))) (show (-2147483648) ≤ (sx V (i + 1)) ∧ (sx V (i + 1)) ≤ 2147483647 by omega) t22 t23 t24) (by decide) (show 5 + 19 ≤ 406 by decide) (Nat.le_trans (show cs + 4 + 0 ≤ 600000 by omega) (Nat.le_of_eq lw_mc.symm)) (Nat.le_trans (show sl + 129028 + 0 ≤ 7302250 by omega) (Nat.le_of_eq lw_ms.symm)) rfl rfl rfl ?_
  rintro z26 m27 ⟨hm34, hf35, p28, p29, p30, p31, p32, p33⟩
  have h36 : m27.1 3 = m3.1 3 := hf35.1 3 rfl
  have h37 : m27.1 7 = m3.1 7 := hf35.1 7 rfl
  have h38 : m27.1 8 = m3.1 8 := hf35.1 8 rfl
  have h39 : m27.1 10 = m3.1 10 := hf35.1 10 rfl
  have h40 : m27.1 22 = m3.1 22 := hf35.1 22 rfl
  have h41 : m27.1 23 = m3.1 23 := hf35.1 23 rfl
  have h42 : m27.1 25 = m3.1 25 := hf35.1 25 rfl
  have h43 : m27.1 26 = m3.1 26 := hf35.1 26 rfl
  have h44 : m27.1 28 = m3.1 28 := hf35.1 28 rfl
  have h45 : m27.1 39 = m3.1 39 := hf35.1 39 rfl
  have y2_m27 : m27.2.1 2 = m3.2.1 2 := hf35.2.1 2 rfl
  have y64_m27 : m27.2.1 64 = m3.2.1 64 := hf35.2.1 64 rfl
  have t46 : kW m27 := kW_of (hf35.2.1 18 rfl) p7
  have t47 : kP m27 := kP_fr hf35 rfl rfl p8
  have R_m27 : m27.2.2.1 0 = m3.2.2.1 0 := by rw [hf35.2.2]
  refine g_pop rfl rfl ?_
  refine g_goto rfl ?_
  have r2n : m27.2.1 2 = m27.2.1 64 := by rw [y2_m27, y2_m3, y64_m27, y64_m3, r2]
  have hrl : rl m27 := ⟨by omega, r2n, by omega, by omega, by omega, by omega⟩
  have hne : m27.2.2.1 0 ≠ vE 0 := by rw [R_m27]; exact p9
  exact K m27 (cs + 4 + 0) (sl + 129028 + 0) ⟨hm34, t46, t47, p31, p32, p33, hrl⟩ ⟨by omega, Or.inr ⟨hne, by omega⟩⟩
theorem w_12 {V : cg_V} (hL : V.2.2.2.1 ≤ 256) {m : kM} {i : Int} {cs sl k : Nat} (hiv : iv m) (hbu : bu cs sl k m) (hk : k ≤ 63) (hi : 0 ≤ i ∧ i + 4 ≤ ((V.2.2.2.1 : Nat) : Int)) (K : ∀ (m' : kM) (cs' sl' : Nat), iv m' → bu cs' sl' (k + 1) m' → cg_G V mL_law 11 406 (fun r => ∃ w9, r = (some (vI 1), w9)) 756 [(3, vI i), (2, vR 61), (1, vR 0), (0, vE 1)] [] (kl m') cs' sl') : cg_G V mL_law 11 406 (fun r => ∃ w9, r = (some (vI 1), w9)) 470 [(3, vI i), (2, vR 61), (1, vR 0), (0, vE 1)] [] (kl m) cs sl := by
  obtain ⟨i_I, i_W, i_P, i_4, i_D, i_K, r3, r2, r7, r8, r10, r22⟩ := hiv
  have b1 := hbu.1
  have pp1 := pp_s k
  have pp2 := pp_s (k + 1)
  have pp3 := pp_le (show k + 1 ≤ 64 by omega)
  have b2 : sl ≤ 267897 + pp (k + 1) := by rcases hbu.2 with h | h <;> omega
  refine g_aload_n (n := 1) rfl rfl ?_
  refine g_aload_n (n := 0) rfl rfl ?_
  refine g_iload_n (n := 3) rfl rfl ?_
  refine g_iconst rfl ?_
  refine g_iadd rfl ?_
  refine g_xld (by omega) (by omega) hL (show decode cL_law 475 = .ok (.iaload, 1) by decide +kernel) ?_
  have h1 := sx_rng V (i + 1)
  refine c_vI (i := 0) (ps := [vI (sx V (i + 1))]) (r := []) (as := [vR 0, vI (sx V (i + 1))]) (cs' := cs + 2) (sl' := sl + 64514) rfl rfl rfl rfl rfl rfl (kl_0 _) (c_out (d := 11 - 1) (q := 406 - (2 + 19)) (by decide) (by decide) i_I (i := (sx V (i + 1))) (show (-2147483648) ≤ (sx V (i + 1)) ∧ (sx V (i + 1)) ≤ 2147483647 by omega) i_W i_P) (by decide) (show 2 + 19 ≤ 406 by decide) (Nat.le_trans (show cs + 2 ≤ 600000 by omega) (Nat.le_of_eq lw_mc.symm)) (Nat.le_trans (show sl + 64514 ≤ 7302250 by omega) (Nat.le_of_eq lw_ms.symm)) rfl rfl rfl ?_
  rintro z2 m3 ⟨hm9, hf10, p4, p5, p6, p7, p8⟩
  have h11 : m3.1 3 = m.1 3 := hf10.1 3 rfl
  have h12 : m3.1 7 = m.1 7 := hf10.1 7 rfl
  have h13 : m3.1 8 = m.1 8 := hf10.1 8 rfl
  have h14 : m3.1 10 = m.1 10 := hf10.1 10 rfl
  have h15 : m3.1 22 = m.1 22 := hf10.1 22 rfl
  have h16 : m3.1 23 = m.1 23 := hf10.1 23 rfl
  have h17 : m3.1 25 = m.1 25 := hf10.1 25 rfl
  have h18 : m3.1 26 = m.1 26 := hf10.1 26 rfl
  have h19 : m3.1 28 = m.1 28 := hf10.1 28 rfl
  have h20 : m3.1 39 = m.1 39 := hf10.1 39 rfl
  have y2_m3 : m3.2.1 2 = m.2.1 2 := hf10.2.1 2 rfl
  have y64_m3 : m3.2.1 64 = m.2.1 64 := hf10.2.1 64 rfl
  have t21 : k4 m3 := k4_of (hf10.1 28 rfl) i_4
  have t22 : kD m3 := kD_of (hf10.1 26 rfl) (hf10.2.1 66 rfl) i_D
  have t23 : kK m3 := kK_same (hf10.1 28 rfl) (hf10.2.1 62 rfl) (hf10.2.1 63 rfl) i_K
  refine g_pop rfl rfl ?_
  refine g_aload_n (n := 2) rfl rfl ?_
  refine g_aload_n (n := 0) rfl rfl ?_
  refine g_iload_n (n := 3) rfl rfl ?_
  refine g_iconst rfl ?_
  refine g_iadd rfl ?_
  refine g_xld (by omega) (by omega) hL (show decode cL_law 485 = .ok (.iaload, 1) by decide +kernel) ?_
  have h24 := sx_rng V (i + 1)
  refine c_vI (i := 61) (ps := [vI (sx V (i + 1))]) (r := []) (as := [vR 61, vI (sx V (i + 1))]) (cs' := cs + 2 + 0) (sl' := sl + 64514 + 0) rfl rfl rfl rfl rfl rfl (kl_61 _) (d_out (d := 11 - 1) (q := 406 - (2 + 19)) (by decide) (by decide) hm9 (i := (sx V (i + 1))) (show (-2147483648) ≤ (sx V (i + 1)) ∧ (sx V (i + 1)) ≤ 2147483647 by omega) t21 t22 t23) (by decide) (show 2 + 19 ≤ 406 by decide) (Nat.le_trans (show cs + 2 + 0 ≤ 600000 by omega) (Nat.le_of_eq lw_mc.symm)) (Nat.le_trans (show sl + 64514 + 0 ≤ 7302250 by omega) (Nat.le_of_eq lw_ms.symm)) rfl rfl rfl ?_
  rintro z25 m26 ⟨hm32, hf33, p27, p28, p29, p30, p31⟩
  have h34 : m26.1 3 = m3.1 3 := hf33.1 3 rfl
  have h35 : m26.1 7 = m3.1 7 := hf33.1 7 rfl
  have h36 : m26.1 8 = m3.1 8 := hf33.1 8 rfl
  have h37 : m26.1 10 = m3.1 10 := hf33.1 10 rfl
  have h38 : m26.1 22 = m3.1 22 := hf33.1 22 rfl
  have h39 : m26.1 23 = m3.1 23 := hf33.1 23 rfl
  have h40 : m26.1 25 = m3.1 25 := hf33.1 25 rfl
  have h41 : m26.1 26 = m3.1 26 := hf33.1 26 rfl
  have h42 : m26.1 28 = m3.1 28 := hf33.1 28 rfl
  have h43 : m26.1 39 = m3.1 39 := hf33.1 39 rfl
  have y2_m26 : m26.2.1 2 = m3.2.1 2 := hf33.2.1 2 rfl
  have y64_m26 : m26.2.1 64 = m3.2.1 64 := hf33.2.1 64 rfl
  have t44 : kW m26 := kW_of (hf33.2.1 18 rfl) p6
  have t45 : kP m26 := kP_fr hf33 rfl rfl p7
  have R_m26 : m26.2.2.1 0 = m3.2.2.1 0 := by rw [hf33.2.2]
  refine g_pop rfl rfl ?_
  refine g_goto rfl ?_
  have r2n : m26.2.1 2 = m26.2.1 64 := by rw [y2_m26, y2_m3, y64_m26, y64_m3, r2]
  have hrl : rl m26 := ⟨by omega, r2n, by omega, by omega, by omega, by omega⟩
  have hb2 : sl + 64514 + 0 ≤ 267897 + pp (k + 1) ∨ (m26.2.2.1 0 ≠ vE 0 ∧ sl + 64514 + 0 ≤ 267897 + pp (k + 1 + 1)) := by
    rcases hbu.2 with h | ⟨h1, h2⟩
    · left; omega
    · right; refine ⟨?_, by omega⟩
      have u46 : m3.2.2.1 0 ≠ vE 0 := p8.elim (fun e => by rw [e]; exact h1) id
      have u47 : m26.2.2.1 0 ≠ vE 0 := by rw [R_m26]; exact u46
      exact u47
  exact K m26 (cs + 2 + 0) (sl + 64514 + 0) ⟨hm32, t44, t45, p29, p30, p31, hrl⟩ ⟨by omega, hb2⟩
theorem w_13 {V : cg_V} (hL : V.2.2.2.1 ≤ 256) {m : kM} {i : Int} {cs sl k : Nat} (hiv : iv m) (hbu : bu cs sl k m) (hk : k ≤ 63) (hi : 0 ≤ i ∧ i + 4 ≤ ((V.2.2.2.1 : Nat) : Int)) (K : ∀ (m' : kM) (cs' sl' : Nat), iv m' → bu cs' sl' (k + 1) m' → cg_G V mL_law 11 406 (fun r => ∃ w9, r = (some (vI 1), w9)) 756 [(3, vI i), (2, vR 61), (1, vR 0), (0, vE 1)] [] (kl m') cs' sl') : cg_G V mL_law 11 406 (fun r => ∃ w9, r = (some (vI 1), w9)) 493 [(3, vI i), (2, vR 61), (1, vR 0), (0, vE 1)] [] (kl m) cs sl := by
  obtain ⟨i_I, i_W, i_P, i_4, i_D, i_K, r3, r2, r7, r8, r10, r22⟩ := hiv
  have b1 := hbu.1
  have pp1 := pp_s k
  have pp2 := pp_s (k + 1)
  have pp3 := pp_le (show k + 1 ≤ 64 by omega)
  have b2 : sl ≤ 267897 + pp (k + 1) := by rcases hbu.2 with h | h <;> omega
  refine g_aload_n (n := 1) rfl rfl ?_
  refine g_aload_n (n := 0) rfl rfl ?_
  refine g_iload_n (n := 3) rfl rfl ?_
  refine g_iconst rfl ?_
  refine g_iadd rfl ?_
  refine g_xld (by omega) (by omega) hL (show decode cL_law 498 = .ok (.iaload, 1) by decide +kernel) ?_
  have h1 := sx_rng V (i + 1)
  refine g_aload_n (n := 0) rfl rfl ?_
  refine g_iload_n (n := 3) rfl rfl ?_
  refine g_iconst rfl ?_
  refine g_iadd rfl ?_
  refine g_xld (by omega) (by omega) hL (show decode cL_law 503 = .ok (.iaload, 1) by decide +kernel) ?_
  have h2 := sx_rng V (i + 2)
  refine g_aload_n (n := 0) rfl rfl ?_
  refine g_iload_n (n := 3) rfl rfl ?_
  refine g_iconst rfl ?_
  refine g_iadd rfl ?_
  refine g_xld (by omega) (by omega) hL (show decode cL_law 508 = .ok (.iaload, 1) by decide +kernel) ?_
  have h3 := sx_rng V (i + 3)
  refine c_vL (i := 0) (ps := [vI (sx V (i + 3)), vI (sx V (i + 2)), vI (sx V (i + 1))]) (r := []) (as := [vR 0, vI (sx V (i + 1)), vI (sx V (i + 2)), vI (sx V (i + 3))]) (cs' := cs + 2) (sl' := sl + 64514) rfl rfl rfl rfl rfl rfl (kl_0 _) (c_odds (d := 11 - 1) (q := 406 - (6 + 19)) (by decide) (by decide) i_I (p := (sx V (i + 1))) (e := (sx V (i + 2))) (w := (sx V (i + 3))) (show (-2147483648) ≤ (sx V (i + 1)) ∧ (sx V (i + 1)) ≤ 2147483647 by omega) (show (-2147483648) ≤ (sx V (i + 2)) ∧ (sx V (i + 2)) ≤ 2147483647 by omega) (show (-2147483648) ≤ (sx V (i + 3)) ∧ (sx V (i + 3)) ≤ 2147483647 by omega) i_W i_P) (by decide) (show 6 + 19 ≤ 406 by decide) (Nat.le_trans (show cs + 2 ≤ 600000 by omega) (Nat.le_of_eq lw_mc.symm)) (Nat.le_trans (show sl + 64514 ≤ 7302250 by omega) (Nat.le_of_eq lw_ms.symm)) rfl rfl rfl ?_
  rintro z4 m5 ⟨hm11, hf12, p6, p7, p8, p9, p10⟩
  have h13 : m5.1 3 = m.1 3 := hf12.1 3 rfl
  have h14 : m5.1 7 = m.1 7 := hf12.1 7 rfl
  have h15 : m5.1 8 = m.1 8 := hf12.1 8 rfl
  have h16 : m5.1 10 = m.1 10 := hf12.1 10 rfl
  have h17 : m5.1 22 = m.1 22 := hf12.1 22 rfl
  have h18 : m5.1 23 = m.1 23 := hf12.1 23 rfl
  have h19 : m5.1 25 = m.1 25 := hf12.1 25 rfl
  have h20 : m5.1 26 = m.1 26 := hf12.1 26 rfl
  have h21 : m5.1 28 = m.1 28 := hf12.1 28 rfl
  have h22 : m5.1 39 = m.1 39 := hf12.1 39 rfl
  have y2_m5 : m5.2.1 2 = m.2.1 2 := hf12.2.1 2 rfl
  have y64_m5 : m5.2.1 64 = m.2.1 64 := hf12.2.1 64 rfl
  have t23 : k4 m5 := k4_of (hf12.1 28 rfl) i_4
  have t24 : kD m5 := kD_of (hf12.1 26 rfl) (hf12.2.1 66 rfl) i_D
  have t25 : kK m5 := kK_same (hf12.1 28 rfl) (hf12.2.1 62 rfl) (hf12.2.1 63 rfl) i_K
  refine g_pop2 rfl rfl ?_
  refine g_aload_n (n := 2) rfl rfl ?_
  refine g_aload_n (n := 0) rfl rfl ?_
  refine g_iload_n (n := 3) rfl rfl ?_
  refine g_iconst rfl ?_
  refine g_iadd rfl ?_
  refine g_xld (by omega) (by omega) hL (show decode cL_law 518 = .ok (.iaload, 1) by decide +kernel) ?_
  have h26 := sx_rng V (i + 1)
  refine g_aload_n (n := 0) rfl rfl ?_
  refine g_iload_n (n := 3) rfl rfl ?_
  refine g_iconst rfl ?_
  refine g_iadd rfl ?_
  refine g_xld (by omega) (by omega) hL (show decode cL_law 523 = .ok (.iaload, 1) by decide +kernel) ?_
  have h27 := sx_rng V (i + 2)
  refine g_aload_n (n := 0) rfl rfl ?_
  refine g_iload_n (n := 3) rfl rfl ?_
  refine g_iconst rfl ?_
  refine g_iadd rfl ?_
  refine g_xld (by omega) (by omega) hL (show decode cL_law 528 = .ok (.iaload, 1) by decide +kernel) ?_
  have h28 := sx_rng V (i + 3)
  refine c_vL (i := 61) (ps := [vI (sx V (i + 3)), vI (sx V (i + 2)), vI (sx V (i + 1))]) (r := []) (as := [vR 61, vI (sx V (i + 1)), vI (sx V (i + 2)), vI (sx V (i + 3))]) (cs' := cs + 2 + 0) (sl' := sl + 64514 + 0) rfl rfl rfl rfl rfl rfl (kl_61 _) (d_odds (d := 11 - 1) (q := 406 - (13 + 19)) (by decide) (by decide) hm11 (p := (sx V (i + 1))) (e := (sx V (i + 2))) (w := (sx V (i + 3))) (show (-2147483648) ≤ (sx V (i + 1)) ∧ (sx V (i + 1)) ≤ 2147483647 by omega) (show (-2147483648) ≤ (sx V (i + 2)) ∧ (sx V (i + 2)) ≤ 2147483647 by omega) (show (-2147483648) ≤ (sx V (i + 3)) ∧ (sx V (i + 3)) ≤ 2147483647 by omega) t23 t24 t25) (by decide) (show 13 + 19 ≤ 406 by decide) (Nat.le_trans (show cs + 2 + 0 ≤ 600000 by omega) (Nat.le_of_eq lw_mc.symm)) (Nat.le_trans (show sl + 64514 + 0 ≤ 7302250 by omega) (Nat.le_of_eq lw_ms.symm)) rfl rfl rfl ?_
  rintro z29 m30 ⟨hm36, hf37, p31, p32, p33, p34, p35⟩
  have h38 : m30.1 3 = m5.1 3 := hf37.1 3 rfl
  have h39 : m30.1 7 = m5.1 7 := hf37.1 7 rfl
  have h40 : m30.1 8 = m5.1 8 := hf37.1 8 rfl
  have h41 : m30.1 10 = m5.1 10 := hf37.1 10 rfl
  have h42 : m30.1 22 = m5.1 22 := hf37.1 22 rfl
  have h43 : m30.1 23 = m5.1 23 := hf37.1 23 rfl
  have h44 : m30.1 25 = m5.1 25 := hf37.1 25 rfl
  have h45 : m30.1 26 = m5.1 26 := hf37.1 26 rfl
  have h46 : m30.1 28 = m5.1 28 := hf37.1 28 rfl
  have h47 : m30.1 39 = m5.1 39 := hf37.1 39 rfl
  have y2_m30 : m30.2.1 2 = m5.2.1 2 := hf37.2.1 2 rfl
  have y64_m30 : m30.2.1 64 = m5.2.1 64 := hf37.2.1 64 rfl
  have t48 : kW m30 := kW_of (hf37.2.1 18 rfl) p8
  have t49 : kP m30 := kP_fr hf37 rfl rfl p9
  have R_m30 : m30.2.2.1 0 = m5.2.2.1 0 := by rw [hf37.2.2]
  refine g_pop2 rfl rfl ?_
  refine g_goto rfl ?_
  have r2n : m30.2.1 2 = m30.2.1 64 := by rw [y2_m30, y2_m5, y64_m30, y64_m5, r2]
  have hrl : rl m30 := ⟨by omega, r2n, by omega, by omega, by omega, by omega⟩
  have hb2 : sl + 64514 + 0 ≤ 267897 + pp (k + 1) ∨ (m30.2.2.1 0 ≠ vE 0 ∧ sl + 64514 + 0 ≤ 267897 + pp (k + 1 + 1)) := by
    rcases hbu.2 with h | ⟨h1, h2⟩
    · left; omega
    · right; refine ⟨?_, by omega⟩
      have u50 : m5.2.2.1 0 ≠ vE 0 := p10.elim (fun e => by rw [e]; exact h1) id
      have u51 : m30.2.2.1 0 ≠ vE 0 := by rw [R_m30]; exact u50
      exact u51
  exact K m30 (cs + 2 + 0) (sl + 64514 + 0) ⟨hm36, t48, t49, p33, p34, p35, hrl⟩ ⟨by omega, hb2⟩
theorem w_14 {V : cg_V} (hL : V.2.2.2.1 ≤ 256) {m : kM} {i : Int} {cs sl k : Nat} (hiv : iv m) (hbu : bu cs sl k m) (hk : k ≤ 63) (hi : 0 ≤ i ∧ i + 4 ≤ ((V.2.2.2.1 : Nat) : Int)) (K : ∀ (m' : kM) (cs' sl' : Nat), iv m' → bu cs' sl' (k + 1) m' → cg_G V mL_law 11 406 (fun r => ∃ w9, r = (some (vI 1), w9)) 756 [(3, vI i), (2, vR 61), (1, vR 0), (0, vE 1)] [] (kl m') cs' sl') : cg_G V mL_law 11 406 (fun r => ∃ w9, r = (some (vI 1), w9)) 536 [(3, vI i), (2, vR 61), (1, vR 0), (0, vE 1)] [] (kl m) cs sl := by
  obtain ⟨i_I, i_W, i_P, i_4, i_D, i_K, r3, r2, r7, r8, r10, r22⟩ := hiv
  have b1 := hbu.1
  have pp1 := pp_s k
  have pp2 := pp_s (k + 1)
  have pp3 := pp_le (show k + 1 ≤ 64 by omega)
  have b2 : sl ≤ 267897 + pp (k + 1) := by rcases hbu.2 with h | h <;> omega
  refine g_aload_n (n := 1) rfl rfl ?_
  refine g_aload_n (n := 0) rfl rfl ?_
  refine g_iload_n (n := 3) rfl rfl ?_
  refine g_iconst rfl ?_
  refine g_iadd rfl ?_
  refine g_xld (by omega) (by omega) hL (show decode cL_law 541 = .ok (.iaload, 1) by decide +kernel) ?_
  have h1 := sx_rng V (i + 1)
  refine c_vI (i := 0) (ps := [vI (sx V (i + 1))]) (r := []) (as := [vR 0, vI (sx V (i + 1))]) (cs' := cs + 0) (sl' := sl + 0) rfl rfl rfl rfl rfl rfl (kl_0 _) (c_row (d := 11 - 1) (q := 406 - (2 + 19)) (by decide) (by decide) i_I (c := (sx V (i + 1))) (show (-2147483648) ≤ (sx V (i + 1)) ∧ (sx V (i + 1)) ≤ 2147483647 by omega)) (by decide) (show 2 + 19 ≤ 406 by decide) (Nat.le_trans (show cs + 0 ≤ 600000 by omega) (Nat.le_of_eq lw_mc.symm)) (Nat.le_trans (show sl + 0 ≤ 7302250 by omega) (Nat.le_of_eq lw_ms.symm)) rfl rfl rfl ?_
  rintro z2 m3 ⟨hm6, hf7, p4, p5⟩
  have h8 : m3.1 3 = m.1 3 := hf7.1 3 rfl
  have h9 : m3.1 7 = m.1 7 := hf7.1 7 rfl
  have h10 : m3.1 8 = m.1 8 := hf7.1 8 rfl
  have h11 : m3.1 10 = m.1 10 := hf7.1 10 rfl
  have h12 : m3.1 22 = m.1 22 := hf7.1 22 rfl
  have h13 : m3.1 23 = m.1 23 := hf7.1 23 rfl
  have h14 : m3.1 25 = m.1 25 := hf7.1 25 rfl
  have h15 : m3.1 26 = m.1 26 := hf7.1 26 rfl
  have h16 : m3.1 28 = m.1 28 := hf7.1 28 rfl
  have h17 : m3.1 39 = m.1 39 := hf7.1 39 rfl
  have y2_m3 : m3.2.1 2 = m.2.1 2 := hf7.2.1 2 rfl
  have y64_m3 : m3.2.1 64 = m.2.1 64 := hf7.2.1 64 rfl
  have t18 : kW m3 := kW_of (hf7.2.1 18 rfl) i_W
  have t19 : kP m3 := kP_fr hf7 rfl rfl i_P
  have t20 : k4 m3 := k4_of (hf7.1 28 rfl) i_4
  have t21 : kD m3 := kD_of (hf7.1 26 rfl) (hf7.2.1 66 rfl) i_D
  have t22 : kK m3 := kK_same (hf7.1 28 rfl) (hf7.2.1 62 rfl) (hf7.2.1 63 rfl) i_K
  have R_m3 : m3.2.2.1 0 = m.2.2.1 0 := by rw [hf7.2.2]
  refine g_pop rfl rfl ?_
  refine g_aload_n (n := 2) rfl rfl ?_
  refine g_aload_n (n := 0) rfl rfl ?_
  refine g_iload_n (n := 3) rfl rfl ?_
  refine g_iconst rfl ?_
  refine g_iadd rfl ?_
  refine g_xld (by omega) (by omega) hL (show decode cL_law 551 = .ok (.iaload, 1) by decide +kernel) ?_
  have h23 := sx_rng V (i + 1)
  refine c_vI (i := 61) (ps := [vI (sx V (i + 1))]) (r := []) (as := [vR 61, vI (sx V (i + 1))]) (cs' := cs + 0 + 0) (sl' := sl + 0 + 0) rfl rfl rfl rfl rfl rfl (kl_61 _) (d_row (d := 11 - 1) (q := 406 - (2 + 19)) (by decide) (by decide) hm6 (c := (sx V (i + 1))) (show (-2147483648) ≤ (sx V (i + 1)) ∧ (sx V (i + 1)) ≤ 2147483647 by omega)) (by decide) (show 2 + 19 ≤ 406 by decide) (Nat.le_trans (show cs + 0 + 0 ≤ 600000 by omega) (Nat.le_of_eq lw_mc.symm)) (Nat.le_trans (show sl + 0 + 0 ≤ 7302250 by omega) (Nat.le_of_eq lw_ms.symm)) rfl rfl rfl ?_
  rintro z24 m25 ⟨hm28, hf29, p26, p27⟩
  have h30 : m25.1 3 = m3.1 3 := hf29.1 3 rfl
  have h31 : m25.1 7 = m3.1 7 := hf29.1 7 rfl
  have h32 : m25.1 8 = m3.1 8 := hf29.1 8 rfl
  have h33 : m25.1 10 = m3.1 10 := hf29.1 10 rfl
  have h34 : m25.1 22 = m3.1 22 := hf29.1 22 rfl
  have h35 : m25.1 23 = m3.1 23 := hf29.1 23 rfl
  have h36 : m25.1 25 = m3.1 25 := hf29.1 25 rfl
  have h37 : m25.1 26 = m3.1 26 := hf29.1 26 rfl
  have h38 : m25.1 28 = m3.1 28 := hf29.1 28 rfl
  have h39 : m25.1 39 = m3.1 39 := hf29.1 39 rfl
  have y2_m25 : m25.2.1 2 = m3.2.1 2 := hf29.2.1 2 rfl
  have y64_m25 : m25.2.1 64 = m3.2.1 64 := hf29.2.1 64 rfl
  have t40 : kW m25 := kW_of (hf29.2.1 18 rfl) t18
  have t41 : kP m25 := kP_fr hf29 rfl rfl t19
  have t42 : k4 m25 := k4_of (hf29.1 28 rfl) t20
  have t43 : kD m25 := kD_of (hf29.1 26 rfl) (hf29.2.1 66 rfl) t21
  have t44 : kK m25 := kK_same (hf29.1 28 rfl) (hf29.2.1 62 rfl) (hf29.2.1 63 rfl) t22
  have R_m25 : m25.2.2.1 0 = m3.2.2.1 0 := by rw [hf29.2.2]
  refine g_pop rfl rfl ?_
  refine g_goto rfl ?_
  have r2n : m25.2.1 2 = m25.2.1 64 := by rw [y2_m25, y2_m3, y64_m25, y64_m3, r2]
  have hrl : rl m25 := ⟨by omega, r2n, by omega, by omega, by omega, by omega⟩
  have hb2 : sl + 0 + 0 ≤ 267897 + pp (k + 1) ∨ (m25.2.2.1 0 ≠ vE 0 ∧ sl + 0 + 0 ≤ 267897 + pp (k + 1 + 1)) := by
    rcases hbu.2 with h | ⟨h1, h2⟩
    · left; omega
    · right; refine ⟨?_, by omega⟩
      have u45 : m3.2.2.1 0 ≠ vE 0 := by rw [R_m3]; exact h1
      have u46 : m25.2.2.1 0 ≠ vE 0 := by rw [R_m25]; exact u45
      exact u46
  exact K m25 (cs + 0 + 0) (sl + 0 + 0) ⟨hm28, t40, t41, t42, t43, t44, hrl⟩ ⟨by omega, hb2⟩
theorem w_15 {V : cg_V} (hL : V.2.2.2.1 ≤ 256) {m : kM} {i : Int} {cs sl k : Nat} (hiv : iv m) (hbu : bu cs sl k m) (hk : k ≤ 63) (hi : 0 ≤ i ∧ i + 4 ≤ ((V.2.2.2.1 : Nat) : Int)) (K : ∀ (m' : kM) (cs' sl' : Nat), iv m' → bu cs' sl' (k + 1) m' → cg_G V mL_law 11 406 (fun r => ∃ w9, r = (some (vI 1), w9)) 756 [(3, vI i), (2, vR 61), (1, vR 0), (0, vE 1)] [] (kl m') cs' sl') : cg_G V mL_law 11 406 (fun r => ∃ w9, r = (some (vI 1), w9)) 559 [(3, vI i), (2, vR 61), (1, vR 0), (0, vE 1)] [] (kl m) cs sl := by
  obtain ⟨i_I, i_W, i_P, i_4, i_D, i_K, r3, r2, r7, r8, r10, r22⟩ := hiv
  have b1 := hbu.1
  have pp1 := pp_s k
  have pp2 := pp_s (k + 1)
  have pp3 := pp_le (show k + 1 ≤ 64 by omega)
  have b2 : sl ≤ 267897 + pp (k + 1) := by rcases hbu.2 with h | h <;> omega
  refine g_aload_n (n := 1) rfl rfl ?_
  refine c_vI (i := 0) (ps := []) (r := []) (as := [vR 0]) (cs' := cs + 0) (sl' := sl + 0) rfl rfl rfl rfl rfl rfl (kl_0 _) (c_burn (d := 11 - 1) (q := 406 - (2 + 19)) (by decide) (by decide) i_I  ) (by decide) (show 2 + 19 ≤ 406 by decide) (Nat.le_trans (show cs + 0 ≤ 600000 by omega) (Nat.le_of_eq lw_mc.symm)) (Nat.le_trans (show sl + 0 ≤ 7302250 by omega) (Nat.le_of_eq lw_ms.symm)) rfl rfl rfl ?_
  rintro z1 m2 ⟨hm5, hf6, p3, p4⟩
  have h7 : m2.1 3 = m.1 3 := hf6.1 3 rfl
  have h8 : m2.1 7 = m.1 7 := hf6.1 7 rfl
  have h9 : m2.1 8 = m.1 8 := hf6.1 8 rfl
  have h10 : m2.1 10 = m.1 10 := hf6.1 10 rfl
  have h11 : m2.1 22 = m.1 22 := hf6.1 22 rfl
  have h12 : m2.1 23 = m.1 23 := hf6.1 23 rfl
  have h13 : m2.1 25 = m.1 25 := hf6.1 25 rfl
  have h14 : m2.1 26 = m.1 26 := hf6.1 26 rfl
  have h15 : m2.1 28 = m.1 28 := hf6.1 28 rfl
  have h16 : m2.1 39 = m.1 39 := hf6.1 39 rfl
  have y2_m2 : m2.2.1 2 = m.2.1 2 := hf6.2.1 2 rfl
  have y64_m2 : m2.2.1 64 = m.2.1 64 := hf6.2.1 64 rfl
  have t17 : kW m2 := kW_of (hf6.2.1 18 rfl) i_W
  have t18 : kP m2 := kP_fr hf6 rfl rfl i_P
  have t19 : k4 m2 := k4_of (hf6.1 28 rfl) i_4
  have t20 : kD m2 := kD_of (hf6.1 26 rfl) (hf6.2.1 66 rfl) i_D
  have t21 : kK m2 := kK_same (hf6.1 28 rfl) (hf6.2.1 62 rfl) (hf6.2.1 63 rfl) i_K
  have R_m2 : m2.2.2.1 0 = m.2.2.1 0 := by rw [hf6.2.2]
  refine g_pop rfl rfl ?_
  refine g_aload_n (n := 2) rfl rfl ?_
  refine c_vI (i := 61) (ps := []) (r := []) (as := [vR 61]) (cs' := cs + 0 + 0) (sl' := sl + 0 + 0) rfl rfl rfl rfl rfl rfl (kl_61 _) (d_burn (d := 11 - 1) (q := 406 - (2 + 19)) (by decide) (by decide) hm5  ) (by decide) (show 2 + 19 ≤ 406 by decide) (Nat.le_trans (show cs + 0 + 0 ≤ 600000 by omega) (Nat.le_of_eq lw_mc.symm)) (Nat.le_trans (show sl + 0 + 0 ≤ 7302250 by omega) (Nat.le_of_eq lw_ms.symm)) rfl rfl rfl ?_
  rintro z22 m23 ⟨hm26, hf27, p24, p25⟩
  have h28 : m23.1 3 = m2.1 3 := hf27.1 3 rfl
  have h29 : m23.1 7 = m2.1 7 := hf27.1 7 rfl
  have h30 : m23.1 8 = m2.1 8 := hf27.1 8 rfl
  have h31 : m23.1 10 = m2.1 10 := hf27.1 10 rfl
  have h32 : m23.1 22 = m2.1 22 := hf27.1 22 rfl
  have h33 : m23.1 23 = m2.1 23 := hf27.1 23 rfl
  have h34 : m23.1 25 = m2.1 25 := hf27.1 25 rfl
  have h35 : m23.1 26 = m2.1 26 := hf27.1 26 rfl
  have h36 : m23.1 28 = m2.1 28 := hf27.1 28 rfl
  have h37 : m23.1 39 = m2.1 39 := hf27.1 39 rfl
  have y2_m23 : m23.2.1 2 = m2.2.1 2 := hf27.2.1 2 rfl
  have y64_m23 : m23.2.1 64 = m2.2.1 64 := hf27.2.1 64 rfl
  have t38 : kW m23 := kW_of (hf27.2.1 18 rfl) t17
  have t39 : kP m23 := kP_fr hf27 rfl rfl t18
  have t40 : k4 m23 := k4_of (hf27.1 28 rfl) t19
  have t41 : kD m23 := kD_of (hf27.1 26 rfl) (hf27.2.1 66 rfl) t20
  have t42 : kK m23 := kK_same (hf27.1 28 rfl) (hf27.2.1 62 rfl) (hf27.2.1 63 rfl) t21
  have R_m23 : m23.2.2.1 0 = m2.2.2.1 0 := by rw [hf27.2.2]
  refine g_pop rfl rfl ?_
  refine g_goto rfl ?_
  have r2n : m23.2.1 2 = m23.2.1 64 := by rw [y2_m23, y2_m2, y64_m23, y64_m2, r2]
  have hrl : rl m23 := ⟨by omega, r2n, by omega, by omega, by omega, by omega⟩
  have hb2 : sl + 0 + 0 ≤ 267897 + pp (k + 1) ∨ (m23.2.2.1 0 ≠ vE 0 ∧ sl + 0 + 0 ≤ 267897 + pp (k + 1 + 1)) := by
    rcases hbu.2 with h | ⟨h1, h2⟩
    · left; omega
    · right; refine ⟨?_, by omega⟩
      have u43 : m2.2.2.1 0 ≠ vE 0 := by rw [R_m2]; exact h1
      have u44 : m23.2.2.1 0 ≠ vE 0 := by rw [R_m23]; exact u43
      exact u44
  exact K m23 (cs + 0 + 0) (sl + 0 + 0) ⟨hm26, t38, t39, t40, t41, t42, hrl⟩ ⟨by omega, hb2⟩
theorem w_16 {V : cg_V} (hL : V.2.2.2.1 ≤ 256) {m : kM} {i : Int} {cs sl k : Nat} (hiv : iv m) (hbu : bu cs sl k m) (hk : k ≤ 63) (hi : 0 ≤ i ∧ i + 4 ≤ ((V.2.2.2.1 : Nat) : Int)) (K : ∀ (m' : kM) (cs' sl' : Nat), iv m' → bu cs' sl' (k + 1) m' → cg_G V mL_law 11 406 (fun r => ∃ w9, r = (some (vI 1), w9)) 756 [(3, vI i), (2, vR 61), (1, vR 0), (0, vE 1)] [] (kl m') cs' sl') : cg_G V mL_law 11 406 (fun r => ∃ w9, r = (some (vI 1), w9)) 572 [(3, vI i), (2, vR 61), (1, vR 0), (0, vE 1)] [] (kl m) cs sl := by
  obtain ⟨i_I, i_W, i_P, i_4, i_D, i_K, r3, r2, r7, r8, r10, r22⟩ := hiv
  have b1 := hbu.1
  have pp1 := pp_s k
  have pp2 := pp_s (k + 1)
  have pp3 := pp_le (show k + 1 ≤ 64 by omega)
  have b2 : sl ≤ 267897 + pp (k + 1) := by rcases hbu.2 with h | h <;> omega
  refine g_aload_n (n := 1) rfl rfl ?_
  refine c_vI (i := 0) (ps := []) (r := []) (as := [vR 0]) (cs' := cs + 0) (sl' := sl + 0) rfl rfl rfl rfl rfl rfl (kl_0 _) (c_judge (d := 11 - 1) (q := 406 - (3 + 19)) (by decide) (by decide) i_I  ) (by decide) (show 3 + 19 ≤ 406 by decide) (Nat.le_trans (show cs + 0 ≤ 600000 by omega) (Nat.le_of_eq lw_mc.symm)) (Nat.le_trans (show sl + 0 ≤ 7302250 by omega) (Nat.le_of_eq lw_ms.symm)) rfl rfl rfl ?_
  rintro z1 m2 ⟨rfl, p3, p4⟩
  refine g_pop rfl rfl ?_
  refine g_aload_n (n := 2) rfl rfl ?_
  refine c_vI (i := 61) (ps := []) (r := []) (as := [vR 61]) (cs' := cs + 0 + 0) (sl' := sl + 0 + 0) rfl rfl rfl rfl rfl rfl (kl_61 _) (d_judge (d := 11 - 1) (q := 406 - (2 + 19)) (by decide) (by decide) i_I  i_4 i_D i_K) (by decide) (show 2 + 19 ≤ 406 by decide) (Nat.le_trans (show cs + 0 + 0 ≤ 600000 by omega) (Nat.le_of_eq lw_mc.symm)) (Nat.le_trans (show sl + 0 + 0 ≤ 7302250 by omega) (Nat.le_of_eq lw_ms.symm)) rfl rfl rfl ?_
  rintro z5 m6 ⟨hm12, hf13, p7, p8, p9, p10, p11⟩
  have h14 : m6.1 3 = m.1 3 := hf13.1 3 rfl
  have h15 : m6.1 7 = m.1 7 := hf13.1 7 rfl
  have h16 : m6.1 8 = m.1 8 := hf13.1 8 rfl
  have h17 : m6.1 10 = m.1 10 := hf13.1 10 rfl
  have h18 : m6.1 22 = m.1 22 := hf13.1 22 rfl
  have h19 : m6.1 23 = m.1 23 := hf13.1 23 rfl
  have h20 : m6.1 25 = m.1 25 := hf13.1 25 rfl
  have h21 : m6.1 26 = m.1 26 := hf13.1 26 rfl
  have h22 : m6.1 28 = m.1 28 := hf13.1 28 rfl
  have h23 : m6.1 39 = m.1 39 := hf13.1 39 rfl
  have y2_m6 : m6.2.1 2 = m.2.1 2 := hf13.2.1 2 rfl
  have y64_m6 : m6.2.1 64 = m.2.1 64 := hf13.2.1 64 rfl
  have t24 : kW m6 := kW_of (hf13.2.1 18 rfl) i_W
  have t25 : kP m6 := kP_fr hf13 rfl rfl i_P
  have R_m6 : m6.2.2.1 0 = m.2.2.1 0 := by rw [hf13.2.2]
  refine g_pop rfl rfl ?_
  refine g_goto rfl ?_
  have r2n : m6.2.1 2 = m6.2.1 64 := by rw [y2_m6, y64_m6, r2]
  have hrl : rl m6 := ⟨by omega, r2n, by omega, by omega, by omega, by omega⟩
  have hb2 : sl + 0 + 0 ≤ 267897 + pp (k + 1) ∨ (m6.2.2.1 0 ≠ vE 0 ∧ sl + 0 + 0 ≤ 267897 + pp (k + 1 + 1)) := by
    rcases hbu.2 with h | ⟨h1, h2⟩
    · left; omega
    · right; refine ⟨?_, by omega⟩
      have u26 : m6.2.2.1 0 ≠ vE 0 := by rw [R_m6]; exact h1
      exact u26
  exact K m6 (cs + 0 + 0) (sl + 0 + 0) ⟨hm12, t24, t25, p9, p10, p11, hrl⟩ ⟨by omega, hb2⟩
theorem w_17 {V : cg_V} (hL : V.2.2.2.1 ≤ 256) {m : kM} {i : Int} {cs sl k : Nat} (hiv : iv m) (hbu : bu cs sl k m) (hk : k ≤ 63) (hi : 0 ≤ i ∧ i + 4 ≤ ((V.2.2.2.1 : Nat) : Int)) (K : ∀ (m' : kM) (cs' sl' : Nat), iv m' → bu cs' sl' (k + 1) m' → cg_G V mL_law 11 406 (fun r => ∃ w9, r = (some (vI 1), w9)) 756 [(3, vI i), (2, vR 61), (1, vR 0), (0, vE 1)] [] (kl m') cs' sl') : cg_G V mL_law 11 406 (fun r => ∃ w9, r = (some (vI 1), w9)) 585 [(3, vI i), (2, vR 61), (1, vR 0), (0, vE 1)] [] (kl m) cs sl := by
  obtain ⟨i_I, i_W, i_P, i_4, i_D, i_K, r3, r2, r7, r8, r10, r22⟩ := hiv
  have b1 := hbu.1
  have pp1 := pp_s k
  have pp2 := pp_s (k + 1)
  have pp3 := pp_le (show k + 1 ≤ 64 by omega)
  have b2 : sl ≤ 267897 + pp (k + 1) := by rcases hbu.2 with h | h <;> omega
  refine g_aload_n (n := 1) rfl rfl ?_
  refine g_aload_n (n := 0) rfl rfl ?_
  refine g_iload_n (n := 3) rfl rfl ?_
  refine g_iconst rfl ?_
  refine g_iadd rfl ?_
  refine g_xld (by omega) (by omega) hL (show decode cL_law 590 = .ok (.iaload, 1) by decide +kernel) ?_
  have h1 := sx_rng V (i + 1)
  refine g_aload_n (n := 0) rfl rfl ?_
  refine g_iload_n (n := 3) rfl rfl ?_
  refine g_iconst rfl ?_
  refine g_iadd rfl ?_
  refine g_xld (by omega) (by omega) hL (show decode cL_law 595 = .ok (.iaload, 1) by decide +kernel) ?_
  have h2 := sx_rng V (i + 2)
  refine c_vI (i := 0) (ps := [vI (sx V (i + 2)), vI (sx V (i + 1))]) (r := []) (as := [vR 0, vI (sx V (i + 1)), vI (sx V (i + 2))]) (cs' := cs + 0) (sl' := sl + 0) rfl rfl rfl rfl rfl rfl (kl_0 _) (c_heard (d := 11 - 1) (q := 406 - (3 + 19)) (by decide) (by decide) i_I (t := (sx V (i + 1))) (a := (sx V (i + 2))) (show (-2147483648) ≤ (sx V (i + 1)) ∧ (sx V (i + 1)) ≤ 2147483647 by omega) (show (-2147483648) ≤ (sx V (i + 2)) ∧ (sx V (i + 2)) ≤ 2147483647 by omega)) (by decide) (show 3 + 19 ≤ 406 by decide) (Nat.le_trans (show cs + 0 ≤ 600000 by omega) (Nat.le_of_eq lw_mc.symm)) (Nat.le_trans (show sl + 0 ≤ 7302250 by omega) (Nat.le_of_eq lw_ms.symm)) rfl rfl rfl ?_
  rintro z3 m4 ⟨hm6, hf7, p5⟩
  have h8 : m4.1 3 = m.1 3 := hf7.1 3 rfl
  have h9 : m4.1 7 = m.1 7 := hf7.1 7 rfl
  have h10 : m4.1 8 = m.1 8 := hf7.1 8 rfl
  have h11 : m4.1 10 = m.1 10 := hf7.1 10 rfl
  have h12 : m4.1 23 = m.1 23 := hf7.1 23 rfl
  have h13 : m4.1 25 = m.1 25 := hf7.1 25 rfl
  have h14 : m4.1 26 = m.1 26 := hf7.1 26 rfl
  have h15 : m4.1 28 = m.1 28 := hf7.1 28 rfl
  have h16 : m4.1 39 = m.1 39 := hf7.1 39 rfl
  have y2_m4 : m4.2.1 2 = m.2.1 2 := hf7.2.1 2 rfl
  have y64_m4 : m4.2.1 64 = m.2.1 64 := hf7.2.1 64 rfl
  have t17 : kW m4 := kW_of (hf7.2.1 18 rfl) i_W
  have t18 : kP m4 := kP_fr hf7 rfl rfl i_P
  have t19 : k4 m4 := k4_of (hf7.1 28 rfl) i_4
  have t20 : kD m4 := kD_of (hf7.1 26 rfl) (hf7.2.1 66 rfl) i_D
  have t21 : kK m4 := kK_same (hf7.1 28 rfl) (hf7.2.1 62 rfl) (hf7.2.1 63 rfl) i_K
  have R_m4 : m4.2.2.1 0 = m.2.2.1 0 := by rw [hf7.2.2]
  refine g_pop rfl rfl ?_
  refine g_aload_n (n := 2) rfl rfl ?_
  refine g_aload_n (n := 0) rfl rfl ?_
  refine g_iload_n (n := 3) rfl rfl ?_
  refine g_iconst rfl ?_
  refine g_iadd rfl ?_
  refine g_xld (by omega) (by omega) hL (show decode cL_law 605 = .ok (.iaload, 1) by decide +kernel) ?_
  have h22 := sx_rng V (i + 1)
  refine g_aload_n (n := 0) rfl rfl ?_
  refine g_iload_n (n := 3) rfl rfl ?_
  refine g_iconst rfl ?_
  refine g_iadd rfl ?_
  refine g_xld (by omega) (by omega) hL (show decode cL_law 610 = .ok (.iaload, 1) by decide +kernel) ?_
  have h23 := sx_rng V (i + 2)
  refine c_vI (i := 61) (ps := [vI (sx V (i + 2)), vI (sx V (i + 1))]) (r := []) (as := [vR 61, vI (sx V (i + 1)), vI (sx V (i + 2))]) (cs' := cs + 0 + 0) (sl' := sl + 0 + 0) rfl rfl rfl rfl rfl rfl (kl_61 _) (d_heard (d := 11 - 1) (q := 406 - (3 + 19)) (by decide) (by decide) hm6 (t := (sx V (i + 1))) (a := (sx V (i + 2))) (show (-2147483648) ≤ (sx V (i + 1)) ∧ (sx V (i + 1)) ≤ 2147483647 by omega) (show (-2147483648) ≤ (sx V (i + 2)) ∧ (sx V (i + 2)) ≤ 2147483647 by omega)) (by decide) (show 3 + 19 ≤ 406 by decide) (Nat.le_trans (show cs + 0 + 0 ≤ 600000 by omega) (Nat.le_of_eq lw_mc.symm)) (Nat.le_trans (show sl + 0 + 0 ≤ 7302250 by omega) (Nat.le_of_eq lw_ms.symm)) rfl rfl rfl ?_
  rintro z24 m25 ⟨hm27, hf28, p26⟩
  have h29 : m25.1 3 = m4.1 3 := hf28.1 3 rfl
  have h30 : m25.1 7 = m4.1 7 := hf28.1 7 rfl
  have h31 : m25.1 8 = m4.1 8 := hf28.1 8 rfl
  have h32 : m25.1 10 = m4.1 10 := hf28.1 10 rfl
  have h33 : m25.1 22 = m4.1 22 := hf28.1 22 rfl
  have h34 : m25.1 23 = m4.1 23 := hf28.1 23 rfl
  have h35 : m25.1 25 = m4.1 25 := hf28.1 25 rfl
  have h36 : m25.1 26 = m4.1 26 := hf28.1 26 rfl
  have h37 : m25.1 28 = m4.1 28 := hf28.1 28 rfl
  have y2_m25 : m25.2.1 2 = m4.2.1 2 := hf28.2.1 2 rfl
  have y64_m25 : m25.2.1 64 = m4.2.1 64 := hf28.2.1 64 rfl
  have t38 : kW m25 := kW_of (hf28.2.1 18 rfl) t17
  have t39 : kP m25 := kP_fr hf28 rfl rfl t18
  have t40 : k4 m25 := k4_of (hf28.1 28 rfl) t19
  have t41 : kD m25 := kD_of (hf28.1 26 rfl) (hf28.2.1 66 rfl) t20
  have t42 : kK m25 := kK_same (hf28.1 28 rfl) (hf28.2.1 62 rfl) (hf28.2.1 63 rfl) t21
  have R_m25 : m25.2.2.1 0 = m4.2.2.1 0 := by rw [hf28.2.2]
  refine g_pop rfl rfl ?_
  refine g_goto rfl ?_
  have r2n : m25.2.1 2 = m25.2.1 64 := by rw [y2_m25, y2_m4, y64_m25, y64_m4, r2]
  have hrl : rl m25 := ⟨by omega, r2n, by omega, by omega, by omega, by omega⟩
  have hb2 : sl + 0 + 0 ≤ 267897 + pp (k + 1) ∨ (m25.2.2.1 0 ≠ vE 0 ∧ sl + 0 + 0 ≤ 267897 + pp (k + 1 + 1)) := by
    rcases hbu.2 with h | ⟨h1, h2⟩
    · left; omega
    · right; refine ⟨?_, by omega⟩
      have u43 : m4.2.2.1 0 ≠ vE 0 := by rw [R_m4]; exact h1
      have u44 : m25.2.2.1 0 ≠ vE 0 := by rw [R_m25]; exact u43
      exact u44
  exact K m25 (cs + 0 + 0) (sl + 0 + 0) ⟨hm27, t38, t39, t40, t41, t42, hrl⟩ ⟨by omega, hb2⟩
theorem w_18 {V : cg_V} (hL : V.2.2.2.1 ≤ 256) {m : kM} {i : Int} {cs sl k : Nat} (hiv : iv m) (hbu : bu cs sl k m) (hk : k ≤ 63) (hi : 0 ≤ i ∧ i + 4 ≤ ((V.2.2.2.1 : Nat) : Int)) (K : ∀ (m' : kM) (cs' sl' : Nat), iv m' → bu cs' sl' (k + 1) m' → cg_G V mL_law 11 406 (fun r => ∃ w9, r = (some (vI 1), w9)) 756 [(3, vI i), (2, vR 61), (1, vR 0), (0, vE 1)] [] (kl m') cs' sl') : cg_G V mL_law 11 406 (fun r => ∃ w9, r = (some (vI 1), w9)) 618 [(3, vI i), (2, vR 61), (1, vR 0), (0, vE 1)] [] (kl m) cs sl := by
  obtain ⟨i_I, i_W, i_P, i_4, i_D, i_K, r3, r2, r7, r8, r10, r22⟩ := hiv
  have b1 := hbu.1
  have pp1 := pp_s k
  have pp2 := pp_s (k + 1)
  have pp3 := pp_le (show k + 1 ≤ 64 by omega)
  have b2 : sl ≤ 267897 + pp (k + 1) := by rcases hbu.2 with h | h <;> omega
  refine g_aload_n (n := 1) rfl rfl ?_
  refine c_vI (i := 0) (ps := []) (r := []) (as := [vR 0]) (cs' := cs + 0) (sl' := sl + 0) rfl rfl rfl rfl rfl rfl (kl_0 _) (c_forget (d := 11 - 1) (q := 406 - (1 + 19)) (by decide) (by decide) i_I  ) (by decide) (show 1 + 19 ≤ 406 by decide) (Nat.le_trans (show cs + 0 ≤ 600000 by omega) (Nat.le_of_eq lw_mc.symm)) (Nat.le_trans (show sl + 0 ≤ 7302250 by omega) (Nat.le_of_eq lw_ms.symm)) rfl rfl rfl ?_
  rintro z1 m2 ⟨hm5, hf6, p3, p4⟩
  have h7 : m2.1 3 = m.1 3 := hf6.1 3 rfl
  have h8 : m2.1 7 = m.1 7 := hf6.1 7 rfl
  have h9 : m2.1 8 = m.1 8 := hf6.1 8 rfl
  have h10 : m2.1 10 = m.1 10 := hf6.1 10 rfl
  have h11 : m2.1 23 = m.1 23 := hf6.1 23 rfl
  have h12 : m2.1 25 = m.1 25 := hf6.1 25 rfl
  have h13 : m2.1 26 = m.1 26 := hf6.1 26 rfl
  have h14 : m2.1 28 = m.1 28 := hf6.1 28 rfl
  have h15 : m2.1 39 = m.1 39 := hf6.1 39 rfl
  have y2_m2 : m2.2.1 2 = m.2.1 2 := hf6.2.1 2 rfl
  have y64_m2 : m2.2.1 64 = m.2.1 64 := hf6.2.1 64 rfl
  have t16 : kW m2 := kW_of (hf6.2.1 18 rfl) i_W
  have t17 : kP m2 := kP_fr hf6 rfl rfl i_P
  have t18 : k4 m2 := k4_of (hf6.1 28 rfl) i_4
  have t19 : kD m2 := kD_of (hf6.1 26 rfl) (hf6.2.1 66 rfl) i_D
  have t20 : kK m2 := kK_same (hf6.1 28 rfl) (hf6.2.1 62 rfl) (hf6.2.1 63 rfl) i_K
  have R_m2 : m2.2.2.1 0 = m.2.2.1 0 := by rw [hf6.2.2]
  refine g_pop rfl rfl ?_
  refine g_aload_n (n := 2) rfl rfl ?_
  refine c_vI (i := 61) (ps := []) (r := []) (as := [vR 61]) (cs' := cs + 0 + 0) (sl' := sl + 0 + 0) rfl rfl rfl rfl rfl rfl (kl_61 _) (d_forget (d := 11 - 1) (q := 406 - (2 + 19)) (by decide) (by decide) hm5  ) (by decide) (show 2 + 19 ≤ 406 by decide) (Nat.le_trans (show cs + 0 + 0 ≤ 600000 by omega) (Nat.le_of_eq lw_mc.symm)) (Nat.le_trans (show sl + 0 + 0 ≤ 7302250 by omega) (Nat.le_of_eq lw_ms.symm)) rfl rfl rfl ?_
  rintro z21 m22 ⟨hm25, hf26, p23, p24⟩
  have h27 : m22.1 3 = m2.1 3 := hf26.1 3 rfl
  have h28 : m22.1 7 = m2.1 7 := hf26.1 7 rfl
  have h29 : m22.1 8 = m2.1 8 := hf26.1 8 rfl
  have h30 : m22.1 10 = m2.1 10 := hf26.1 10 rfl
  have h31 : m22.1 22 = m2.1 22 := hf26.1 22 rfl
  have h32 : m22.1 23 = m2.1 23 := hf26.1 23 rfl
  have h33 : m22.1 25 = m2.1 25 := hf26.1 25 rfl
  have h34 : m22.1 26 = m2.1 26 := hf26.1 26 rfl
  have h35 : m22.1 28 = m2.1 28 := hf26.1 28 rfl
  have y2_m22 : m22.2.1 2 = m2.2.1 2 := hf26.2.1 2 rfl
  have y64_m22 : m22.2.1 64 = m2.2.1 64 := hf26.2.1 64 rfl
  have t36 : kW m22 := kW_of (hf26.2.1 18 rfl) t16
  have t37 : kP m22 := kP_fr hf26 rfl rfl t17
  have t38 : k4 m22 := k4_of (hf26.1 28 rfl) t18
  have t39 : kD m22 := kD_of (hf26.1 26 rfl) (hf26.2.1 66 rfl) t19
  have t40 : kK m22 := kK_same (hf26.1 28 rfl) (hf26.2.1 62 rfl) (hf26.2.1 63 rfl) t20
  have R_m22 : m22.2.2.1 0 = m2.2.2.1 0 := by rw [hf26.2.2]
  refine g_pop rfl rfl ?_
  refine g_goto rfl ?_
  have r2n : m22.2.1 2 = m22.2.1 64 := by rw [y2_m22, y2_m2, y64_m22, y64_m2, r2]
  have hrl : rl m22 := ⟨by omega, r2n, by omega, by omega, by omega, by omega⟩
  have hb2 : sl + 0 + 0 ≤ 267897 + pp (k + 1) ∨ (m22.2.2.1 0 ≠ vE 0 ∧ sl + 0 + 0 ≤ 267897 + pp (k + 1 + 1)) := by
    rcases hbu.2 with h | ⟨h1, h2⟩
    · left; omega
    · right; refine ⟨?_, by omega⟩
      have u41 : m2.2.2.1 0 ≠ vE 0 := by rw [R_m2]; exact h1
      have u42 : m22.2.2.1 0 ≠ vE 0 := by rw [R_m22]; exact u41
      exact u42
  exact K m22 (cs + 0 + 0) (sl + 0 + 0) ⟨hm25, t36, t37, t38, t39, t40, hrl⟩ ⟨by omega, hb2⟩
theorem w_19 {V : cg_V} (hL : V.2.2.2.1 ≤ 256) {m : kM} {i : Int} {cs sl k : Nat} (hiv : iv m) (hbu : bu cs sl k m) (hk : k ≤ 63) (hi : 0 ≤ i ∧ i + 4 ≤ ((V.2.2.2.1 : Nat) : Int)) (K : ∀ (m' : kM) (cs' sl' : Nat), iv m' → bu cs' sl' (k + 1) m' → cg_G V mL_law 11 406 (fun r => ∃ w9, r = (some (vI 1), w9)) 756 [(3, vI i), (2, vR 61), (1, vR 0), (0, vE 1)] [] (kl m') cs' sl') : cg_G V mL_law 11 406 (fun r => ∃ w9, r = (some (vI 1), w9)) 631 [(3, vI i), (2, vR 61), (1, vR 0), (0, vE 1)] [] (kl m) cs sl := by
  obtain ⟨i_I, i_W, i_P, i_4, i_D, i_K, r3, r2, r7, r8, r10, r22⟩ := hiv
  have b1 := hbu.1
  have pp1 := pp_s k
  have pp2 := pp_s (k + 1)
  have pp3 := pp_le (show k + 1 ≤ 64 by omega)
  have b2 : sl ≤ 267897 + pp (k + 1) := by rcases hbu.2 with h | h <;> omega
  refine g_aload_n (n := 1) rfl rfl ?_
  refine g_aload_n (n := 0) rfl rfl ?_
  refine g_iload_n (n := 3) rfl rfl ?_
  refine g_iconst rfl ?_
  refine g_iadd rfl ?_
  refine g_xld (by omega) (by omega) hL (show decode cL_law 636 = .ok (.iaload, 1) by decide +kernel) ?_
  have h1 := sx_rng V (i + 1)
  refine g_aload_n (n := 0) rfl rfl ?_
  refine g_iload_n (n := 3) rfl rfl ?_
  refine g_iconst rfl ?_
  refine g_iadd rfl ?_
  refine g_xld (by omega) (by omega) hL (show decode cL_law 641 = .ok (.iaload, 1) by decide +kernel) ?_
  have h2 := sx_rng V (i + 2)
  refine c_vL (i := 0) (ps := [vI (sx V (i + 2)), vI (sx V (i + 1))]) (r := []) (as := [vR 0, vI (sx V (i + 1)), vI (sx V (i + 2))]) (cs' := cs + 0) (sl' := sl + 0) rfl rfl rfl rfl rfl rfl (kl_0 _) (c_night (d := 11 - 1) (q := 406 - (3 + 19)) (by decide) (by decide) i_I (n := (sx V (i + 1))) (w := (sx V (i + 2))) (show (-2147483648) ≤ (sx V (i + 1)) ∧ (sx V (i + 1)) ≤ 2147483647 by omega) (show (-2147483648) ≤ (sx V (i + 2)) ∧ (sx V (i + 2)) ≤ 2147483647 by omega)) (by decide) (show 3 + 19 ≤ 406 by decide) (Nat.le_trans (show cs + 0 ≤ 600000 by omega) (Nat.le_of_eq lw_mc.symm)) (Nat.le_trans (show sl + 0 ≤ 7302250 by omega) (Nat.le_of_eq lw_ms.symm)) rfl rfl rfl ?_
  rintro z3 m4 ⟨hm7, hf8, p5, p6⟩
  have h9 : m4.1 3 = m.1 3 := hf8.1 3 rfl
  have h10 : m4.1 7 = m.1 7 := hf8.1 7 rfl
  have h11 : m4.1 8 = m.1 8 := hf8.1 8 rfl
  have h12 : m4.1 10 = m.1 10 := hf8.1 10 rfl
  have h13 : m4.1 22 = m.1 22 := hf8.1 22 rfl
  have h14 : m4.1 23 = m.1 23 := hf8.1 23 rfl
  have h15 : m4.1 25 = m.1 25 := hf8.1 25 rfl
  have h16 : m4.1 26 = m.1 26 := hf8.1 26 rfl
  have h17 : m4.1 28 = m.1 28 := hf8.1 28 rfl
  have h18 : m4.1 39 = m.1 39 := hf8.1 39 rfl
  have y2_m4 : m4.2.1 2 = m.2.1 2 := hf8.2.1 2 rfl
  have y64_m4 : m4.2.1 64 = m.2.1 64 := hf8.2.1 64 rfl
  have t19 : kW m4 := kW_of (hf8.2.1 18 rfl) i_W
  have t20 : kP m4 := kP_fr hf8 rfl rfl i_P
  have t21 : k4 m4 := k4_of (hf8.1 28 rfl) i_4
  have t22 : kD m4 := kD_of (hf8.1 26 rfl) (hf8.2.1 66 rfl) i_D
  have t23 : kK m4 := kK_same (hf8.1 28 rfl) (hf8.2.1 62 rfl) (hf8.2.1 63 rfl) i_K
  have R_m4 : m4.2.2.1 0 = m.2.2.1 0 := by rw [hf8.2.2]
  refine g_pop2 rfl rfl ?_
  refine g_aload_n (n := 2) rfl rfl ?_
  refine g_aload_n (n := 0) rfl rfl ?_
  refine g_iload_n (n := 3) rfl rfl ?_
  refine g_iconst rfl ?_
  refine g_iadd rfl ?_
  refine g_xld (by omega) (by omega) hL (show decode cL_law 651 = .ok (.iaload, 1) by decide +kernel) ?_
  have h24 := sx_rng V (i + 1)
  refine g_aload_n (n := 0) rfl rfl ?_
  refine g_iload_n (n := 3) rfl rfl ?_
  refine g_iconst rfl ?_
  refine g_iadd rfl ?_
  refine g_xld (by omega) (by omega) hL (show decode cL_law 656 = .ok (.iaload, 1) by decide +kernel) ?_
  have h25 := sx_rng V (i + 2)
  refine c_vL (i := 61) (ps := [vI (sx V (i + 2)), vI (sx V (i + 1))]) (r := []) (as := [vR 61, vI (sx V (i + 1)), vI (sx V (i + 2))]) (cs' := cs + 0 + 0) (sl' := sl + 0 + 0) rfl rfl rfl rfl rfl rfl (kl_61 _) (d_night (d := 11 - 1) (q := 406 - (7 + 19)) (by decide) (by decide) hm7 (n := (sx V (i + 1))) (w := (sx V (i + 2))) (show (-2147483648) ≤ (sx V (i + 1)) ∧ (sx V (i + 1)) ≤ 2147483647 by omega) (show (-2147483648) ≤ (sx V (i + 2)) ∧ (sx V (i + 2)) ≤ 2147483647 by omega)) (by decide) (show 7 + 19 ≤ 406 by decide) (Nat.le_trans (show cs + 0 + 0 ≤ 600000 by omega) (Nat.le_of_eq lw_mc.symm)) (Nat.le_trans (show sl + 0 + 0 ≤ 7302250 by omega) (Nat.le_of_eq lw_ms.symm)) rfl rfl rfl ?_
  rintro z26 m27 ⟨hm30, hf31, p28, p29⟩
  have h32 : m27.1 3 = m4.1 3 := hf31.1 3 rfl
  have h33 : m27.1 7 = m4.1 7 := hf31.1 7 rfl
  have h34 : m27.1 8 = m4.1 8 := hf31.1 8 rfl
  have h35 : m27.1 10 = m4.1 10 := hf31.1 10 rfl
  have h36 : m27.1 22 = m4.1 22 := hf31.1 22 rfl
  have h37 : m27.1 23 = m4.1 23 := hf31.1 23 rfl
  have h38 : m27.1 25 = m4.1 25 := hf31.1 25 rfl
  have h39 : m27.1 26 = m4.1 26 := hf31.1 26 rfl
  have h40 : m27.1 28 = m4.1 28 := hf31.1 28 rfl
  have h41 : m27.1 39 = m4.1 39 := hf31.1 39 rfl
  have y2_m27 : m27.2.1 2 = m4.2.1 2 := hf31.2.1 2 rfl
  have y64_m27 : m27.2.1 64 = m4.2.1 64 := hf31.2.1 64 rfl
  have t42 : kW m27 := kW_of (hf31.2.1 18 rfl) t19
  have t43 : kP m27 := kP_fr hf31 rfl rfl t20
  have t44 : k4 m27 := k4_of (hf31.1 28 rfl) t21
  have t45 : kD m27 := kD_of (hf31.1 26 rfl) (hf31.2.1 66 rfl) t22
  have t46 : kK m27 := kK_same (hf31.1 28 rfl) (hf31.2.1 62 rfl) (hf31.2.1 63 rfl) t23
  have R_m27 : m27.2.2.1 0 = m4.2.2.1 0 := by rw [hf31.2.2]
  refine g_pop2 rfl rfl ?_
  refine g_goto rfl ?_
  have r2n : m27.2.1 2 = m27.2.1 64 := by rw [y2_m27, y2_m4, y64_m27, y64_m4, r2]
  have hrl : rl m27 := ⟨by omega, r2n, by omega, by omega, by omega, by omega⟩
  have hb2 : sl + 0 + 0 ≤ 267897 + pp (k + 1) ∨ (m27.2.2.1 0 ≠ vE 0 ∧ sl + 0 + 0 ≤ 267897 + pp (k + 1 + 1)) := by
    rcases hbu.2 with h | ⟨h1, h2⟩
    · left; omega
    · right; refine ⟨?_, by omega⟩
      have u47 : m4.2.2.1 0 ≠ vE 0 := by rw [R_m4]; exact h1
      have u48 : m27.2.2.1 0 ≠ vE 0 := by rw [R_m27]; exact u47
      exact u48
  exact K m27 (cs + 0 + 0) (sl + 0 + 0) ⟨hm30, t42, t43, t44, t45, t46, hrl⟩ ⟨by omega, hb2⟩
theorem w_20 {V : cg_V} (hL : V.2.2.2.1 ≤ 256) {m : kM} {i : Int} {cs sl k : Nat} (hiv : iv m) (hbu : bu cs sl k m) (hk : k ≤ 63) (hi : 0 ≤ i ∧ i + 4 ≤ ((V.2.2.2.1 : Nat) : Int)) (K : ∀ (m' : kM) (cs' sl' : Nat), iv m' → bu cs' sl' (k + 1) m' → cg_G V mL_law 11 406 (fun r => ∃ w9, r = (some (vI 1), w9)) 756 [(3, vI i), (2, vR 61), (1, vR 0), (0, vE 1)] [] (kl m') cs' sl') : cg_G V mL_law 11 406 (fun r => ∃ w9, r = (some (vI 1), w9)) 664 [(3, vI i), (2, vR 61), (1, vR 0), (0, vE 1)] [] (kl m) cs sl := by
  obtain ⟨i_I, i_W, i_P, i_4, i_D, i_K, r3, r2, r7, r8, r10, r22⟩ := hiv
  have b1 := hbu.1
  have pp1 := pp_s k
  have pp2 := pp_s (k + 1)
  have pp3 := pp_le (show k + 1 ≤ 64 by omega)
  have b2 : sl ≤ 267897 + pp (k + 1) := by rcases hbu.2 with h | h <;> omega
  refine g_aload_n (n := 1) rfl rfl ?_
  refine g_aload_n (n := 0) rfl rfl ?_
  refine g_iload_n (n := 3) rfl rfl ?_
  refine g_iconst rfl ?_
  refine g_iadd rfl ?_
  refine g_xld (by omega) (by omega) hL (show decode cL_law 669 = .ok (.iaload, 1) by decide +kernel) ?_
  have h1 := sx_rng V (i + 1)
  refine c_vI (i := 0) (ps := [vI (sx V (i + 1))]) (r := []) (as := [vR 0, vI (sx V (i + 1))]) (cs' := cs + 0) (sl' := sl + 0) rfl rfl rfl rfl rfl rfl (kl_0 _) (c_ask (d := 11 - 1) (q := 406 - (2 + 19)) (by decide) (by decide) i_I (n := (sx V (i + 1))) (show (-2147483648) ≤ (sx V (i + 1)) ∧ (sx V (i + 1)) ≤ 2147483647 by omega)) (by decide) (show 2 + 19 ≤ 406 by decide) (Nat.le_trans (show cs + 0 ≤ 600000 by omega) (Nat.le_of_eq lw_mc.symm)) (Nat.le_trans (show sl + 0 ≤ 7302250 by omega) (Nat.le_of_eq lw_ms.symm)) rfl rfl rfl ?_
  rintro z2 m3 ⟨hm6, hf7, p4, p5⟩
  have h8 : m3.1 3 = m.1 3 := hf7.1 3 rfl
  have h9 : m3.1 7 = m.1 7 := hf7.1 7 rfl
  have h10 : m3.1 8 = m.1 8 := hf7.1 8 rfl
  have h11 : m3.1 10 = m.1 10 := hf7.1 10 rfl
  have h12 : m3.1 22 = m.1 22 := hf7.1 22 rfl
  have h13 : m3.1 23 = m.1 23 := hf7.1 23 rfl
  have h14 : m3.1 25 = m.1 25 := hf7.1 25 rfl
  have h15 : m3.1 26 = m.1 26 := hf7.1 26 rfl
  have h16 : m3.1 28 = m.1 28 := hf7.1 28 rfl
  have h17 : m3.1 39 = m.1 39 := hf7.1 39 rfl
  have y2_m3 : m3.2.1 2 = m.2.1 2 := hf7.2.1 2 rfl
  have y64_m3 : m3.2.1 64 = m.2.1 64 := hf7.2.1 64 rfl
  have t18 : kW m3 := kW_of (hf7.2.1 18 rfl) i_W
  have t19 : kP m3 := kP_fr hf7 rfl rfl i_P
  have t20 : k4 m3 := k4_of (hf7.1 28 rfl) i_4
  have t21 : kD m3 := kD_of (hf7.1 26 rfl) (hf7.2.1 66 rfl) i_D
  have t22 : kK m3 := kK_same (hf7.1 28 rfl) (hf7.2.1 62 rfl) (hf7.2.1 63 rfl) i_K
  have R_m3 : m3.2.2.1 0 = m.2.2.1 0 := by rw [hf7.2.2]
  refine g_pop rfl rfl ?_
  refine g_aload_n (n := 2) rfl rfl ?_
  refine g_aload_n (n := 0) rfl rfl ?_
  refine g_iload_n (n := 3) rfl rfl ?_
  refine g_iconst rfl ?_
  refine g_iadd rfl ?_
  refine g_xld (by omega) (by omega) hL (show decode cL_law 679 = .ok (.iaload, 1) by decide +kernel) ?_
  have h23 := sx_rng V (i + 1)
  refine c_vI (i := 61) (ps := [vI (sx V (i + 1))]) (r := []) (as := [vR 61, vI (sx V (i + 1))]) (cs' := cs + 0 + 0) (sl' := sl + 0 + 0) rfl rfl rfl rfl rfl rfl (kl_61 _) (d_ask (d := 11 - 1) (q := 406 - (11 + 19)) (by decide) (by decide) hm6 (n := (sx V (i + 1))) (show (-2147483648) ≤ (sx V (i + 1)) ∧ (sx V (i + 1)) ≤ 2147483647 by omega)) (by decide) (show 11 + 19 ≤ 406 by decide) (Nat.le_trans (show cs + 0 + 0 ≤ 600000 by omega) (Nat.le_of_eq lw_mc.symm)) (Nat.le_trans (show sl + 0 + 0 ≤ 7302250 by omega) (Nat.le_of_eq lw_ms.symm)) rfl rfl rfl ?_
  rintro z24 m25 ⟨hm28, hf29, p26, p27⟩
  have h30 : m25.1 3 = m3.1 3 := hf29.1 3 rfl
  have h31 : m25.1 7 = m3.1 7 := hf29.1 7 rfl
  have h32 : m25.1 8 = m3.1 8 := hf29.1 8 rfl
  have h33 : m25.1 10 = m3.1 10 := hf29.1 10 rfl
  have h34 : m25.1 22 = m3.1 22 := hf29.1 22 rfl
  have h35 : m25.1 23 = m3.1 23 := hf29.1 23 rfl
  have h36 : m25.1 25 = m3.1 25 := hf29.1 25 rfl
  have h37 : m25.1 26 = m3.1 26 := hf29.1 26 rfl
  have h38 : m25.1 28 = m3.1 28 := hf29.1 28 rfl
  have h39 : m25.1 39 = m3.1 39 := hf29.1 39 rfl
  have y2_m25 : m25.2.1 2 = m3.2.1 2 := hf29.2.1 2 rfl
  have y64_m25 : m25.2.1 64 = m3.2.1 64 := hf29.2.1 64 rfl
  have t40 : kW m25 := kW_of (hf29.2.1 18 rfl) t18
  have t41 : kP m25 := kP_fr hf29 rfl rfl t19
  have t42 : k4 m25 := k4_of (hf29.1 28 rfl) t20
  have t43 : kD m25 := kD_of (hf29.1 26 rfl) (hf29.2.1 66 rfl) t21
  have t44 : kK m25 := kK_same (hf29.1 28 rfl) (hf29.2.1 62 rfl) (hf29.2.1 63 rfl) t22
  have R_m25 : m25.2.2.1 0 = m3.2.2.1 0 := by rw [hf29.2.2]
  refine g_pop rfl rfl ?_
  refine g_goto rfl ?_
  have r2n : m25.2.1 2 = m25.2.1 64 := by rw [y2_m25, y2_m3, y64_m25, y64_m3, r2]
  have hrl : rl m25 := ⟨by omega, r2n, by omega, by omega, by omega, by omega⟩
  have hb2 : sl + 0 + 0 ≤ 267897 + pp (k + 1) ∨ (m25.2.2.1 0 ≠ vE 0 ∧ sl + 0 + 0 ≤ 267897 + pp (k + 1 + 1)) := by
    rcases hbu.2 with h | ⟨h1, h2⟩
    · left; omega
    · right; refine ⟨?_, by omega⟩
      have u45 : m3.2.2.1 0 ≠ vE 0 := by rw [R_m3]; exact h1
      have u46 : m25.2.2.1 0 ≠ vE 0 := by rw [R_m25]; exact u45
      exact u46
  exact K m25 (cs + 0 + 0) (sl + 0 + 0) ⟨hm28, t40, t41, t42, t43, t44, hrl⟩ ⟨by omega, hb2⟩
theorem w_21 {V : cg_V} (hL : V.2.2.2.1 ≤ 256) {m : kM} {i : Int} {cs sl k : Nat} (hiv : iv m) (hbu : bu cs sl k m) (hk : k ≤ 63) (hi : 0 ≤ i ∧ i + 4 ≤ ((V.2.2.2.1 : Nat) : Int)) (K : ∀ (m' : kM) (cs' sl' : Nat), iv m' → bu cs' sl' (k + 1) m' → cg_G V mL_law 11 406 (fun r => ∃ w9, r = (some (vI 1), w9)) 756 [(3, vI i), (2, vR 61), (1, vR 0), (0, vE 1)] [] (kl m') cs' sl') : cg_G V mL_law 11 406 (fun r => ∃ w9, r = (some (vI 1), w9)) 687 [(3, vI i), (2, vR 61), (1, vR 0), (0, vE 1)] [] (kl m) cs sl := by
  obtain ⟨i_I, i_W, i_P, i_4, i_D, i_K, r3, r2, r7, r8, r10, r22⟩ := hiv
  have b1 := hbu.1
  have pp1 := pp_s k
  have pp2 := pp_s (k + 1)
  have pp3 := pp_le (show k + 1 ≤ 64 by omega)
  have b2 : sl ≤ 267897 + pp (k + 1) := by rcases hbu.2 with h | h <;> omega
  refine g_aload_n (n := 1) rfl rfl ?_
  refine g_aload_n (n := 0) rfl rfl ?_
  refine g_iload_n (n := 3) rfl rfl ?_
  refine g_iconst rfl ?_
  refine g_iadd rfl ?_
  refine g_xld (by omega) (by omega) hL (show decode cL_law 692 = .ok (.iaload, 1) by decide +kernel) ?_
  have h1 := sx_rng V (i + 1)
  refine c_vI (i := 0) (ps := [vI (sx V (i + 1))]) (r := []) (as := [vR 0, vI (sx V (i + 1))]) (cs' := cs + 0) (sl' := sl + 0) rfl rfl rfl rfl rfl rfl (kl_0 _) (c_keep (d := 11 - 1) (q := 406 - (2 + 19)) (by decide) (by decide) i_I (a := (sx V (i + 1))) (show (-2147483648) ≤ (sx V (i + 1)) ∧ (sx V (i + 1)) ≤ 2147483647 by omega)) (by decide) (show 2 + 19 ≤ 406 by decide) (Nat.le_trans (show cs + 0 ≤ 600000 by omega) (Nat.le_of_eq lw_mc.symm)) (Nat.le_trans (show sl + 0 ≤ 7302250 by omega) (Nat.le_of_eq lw_ms.symm)) rfl rfl rfl ?_
  rintro z2 m3 ⟨hm6, hf7, p4, p5⟩
  have h8 : m3.1 3 = m.1 3 := hf7.1 3 rfl
  have h9 : m3.1 7 = m.1 7 := hf7.1 7 rfl
  have h10 : m3.1 8 = m.1 8 := hf7.1 8 rfl
  have h11 : m3.1 10 = m.1 10 := hf7.1 10 rfl
  have h12 : m3.1 22 = m.1 22 := hf7.1 22 rfl
  have h13 : m3.1 23 = m.1 23 := hf7.1 23 rfl
  have h14 : m3.1 25 = m.1 25 := hf7.1 25 rfl
  have h15 : m3.1 26 = m.1 26 := hf7.1 26 rfl
  have h16 : m3.1 28 = m.1 28 := hf7.1 28 rfl
  have h17 : m3.1 39 = m.1 39 := hf7.1 39 rfl
  have y2_m3 : m3.2.1 2 = m.2.1 2 := hf7.2.1 2 rfl
  have y64_m3 : m3.2.1 64 = m.2.1 64 := hf7.2.1 64 rfl
  have t18 : kW m3 := kW_of (hf7.2.1 18 rfl) i_W
  have t19 : kP m3 := kP_fr hf7 rfl rfl i_P
  have t20 : k4 m3 := k4_of (hf7.1 28 rfl) i_4
  have t21 : kD m3 := kD_of (hf7.1 26 rfl) (hf7.2.1 66 rfl) i_D
  have t22 : kK m3 := kK_same (hf7.1 28 rfl) (hf7.2.1 62 rfl) (hf7.2.1 63 rfl) i_K
  have R_m3 : m3.2.2.1 0 = m.2.2.1 0 := by rw [hf7.2.2]
  refine g_pop rfl rfl ?_
  refine g_aload_n (n := 2) rfl rfl ?_
  refine g_aload_n (n := 0) rfl rfl ?_
  refine g_iload_n (n := 3) rfl rfl ?_
  refine g_iconst rfl ?_
  refine g_iadd rfl ?_
  refine g_xld (by omega) (by omega) hL (show decode cL_law 702 = .ok (.iaload, 1) by decide +kernel) ?_
  have h23 := sx_rng V (i + 1)
  refine c_vI (i := 61) (ps := [vI (sx V (i + 1))]) (r := []) (as := [vR 61, vI (sx V (i + 1))]) (cs' := cs + 0 + 0) (sl' := sl + 0 + 0) rfl rfl rfl rfl rfl rfl (kl_61 _) (d_keep (d := 11 - 1) (q := 406 - (2 + 19)) (by decide) (by decide) hm6 (k := (sx V (i + 1))) (show (-2147483648) ≤ (sx V (i + 1)) ∧ (sx V (i + 1)) ≤ 2147483647 by omega) t20 t21 t22) (by decide) (show 2 + 19 ≤ 406 by decide) (Nat.le_trans (show cs + 0 + 0 ≤ 600000 by omega) (Nat.le_of_eq lw_mc.symm)) (Nat.le_trans (show sl + 0 + 0 ≤ 7302250 by omega) (Nat.le_of_eq lw_ms.symm)) rfl rfl rfl ?_
  rintro z24 m25 ⟨hm31, hf32, p26, p27, p28, p29, p30⟩
  have h33 : m25.1 3 = m3.1 3 := hf32.1 3 rfl
  have h34 : m25.1 7 = m3.1 7 := hf32.1 7 rfl
  have h35 : m25.1 8 = m3.1 8 := hf32.1 8 rfl
  have h36 : m25.1 10 = m3.1 10 := hf32.1 10 rfl
  have h37 : m25.1 22 = m3.1 22 := hf32.1 22 rfl
  have h38 : m25.1 23 = m3.1 23 := hf32.1 23 rfl
  have h39 : m25.1 25 = m3.1 25 := hf32.1 25 rfl
  have h40 : m25.1 26 = m3.1 26 := hf32.1 26 rfl
  have h41 : m25.1 28 = m3.1 28 := hf32.1 28 rfl
  have h42 : m25.1 39 = m3.1 39 := hf32.1 39 rfl
  have y2_m25 : m25.2.1 2 = m3.2.1 2 := hf32.2.1 2 rfl
  have y64_m25 : m25.2.1 64 = m3.2.1 64 := hf32.2.1 64 rfl
  have t43 : kW m25 := kW_of (hf32.2.1 18 rfl) t18
  have t44 : kP m25 := kP_fr hf32 rfl rfl t19
  have R_m25 : m25.2.2.1 0 = m3.2.2.1 0 := by rw [hf32.2.2]
  refine g_pop rfl rfl ?_
  refine g_goto rfl ?_
  have r2n : m25.2.1 2 = m25.2.1 64 := by rw [y2_m25, y2_m3, y64_m25, y64_m3, r2]
  have hrl : rl m25 := ⟨by omega, r2n, by omega, by omega, by omega, by omega⟩
  have hb2 : sl + 0 + 0 ≤ 267897 + pp (k + 1) ∨ (m25.2.2.1 0 ≠ vE 0 ∧ sl + 0 + 0 ≤ 267897 + pp (k + 1 + 1)) := by
    rcases hbu.2 with h | ⟨h1, h2⟩
    · left; omega
    · right; refine ⟨?_, by omega⟩
      have u45 : m3.2.2.1 0 ≠ vE 0 := by rw [R_m3]; exact h1
      have u46 : m25.2.2.1 0 ≠ vE 0 := by rw [R_m25]; exact u45
      exact u46
  exact K m25 (cs + 0 + 0) (sl + 0 + 0) ⟨hm31, t43, t44, p28, p29, p30, hrl⟩ ⟨by omega, hb2⟩
theorem w_22 {V : cg_V} (hL : V.2.2.2.1 ≤ 256) {m : kM} {i : Int} {cs sl k : Nat} (hiv : iv m) (hbu : bu cs sl k m) (hk : k ≤ 63) (hi : 0 ≤ i ∧ i + 4 ≤ ((V.2.2.2.1 : Nat) : Int)) (K : ∀ (m' : kM) (cs' sl' : Nat), iv m' → bu cs' sl' (k + 1) m' → cg_G V mL_law 11 406 (fun r => ∃ w9, r = (some (vI 1), w9)) 756 [(3, vI i), (2, vR 61), (1, vR 0), (0, vE 1)] [] (kl m') cs' sl') : cg_G V mL_law 11 406 (fun r => ∃ w9, r = (some (vI 1), w9)) 710 [(3, vI i), (2, vR 61), (1, vR 0), (0, vE 1)] [] (kl m) cs sl := by
  obtain ⟨i_I, i_W, i_P, i_4, i_D, i_K, r3, r2, r7, r8, r10, r22⟩ := hiv
  have b1 := hbu.1
  have pp1 := pp_s k
  have pp2 := pp_s (k + 1)
  have pp3 := pp_le (show k + 1 ≤ 64 by omega)
  have b2 : sl ≤ 267897 + pp (k + 1) := by rcases hbu.2 with h | h <;> omega
  refine g_aload_n (n := 1) rfl rfl ?_
  refine g_aload_n (n := 0) rfl rfl ?_
  refine g_iload_n (n := 3) rfl rfl ?_
  refine g_iconst rfl ?_
  refine g_iadd rfl ?_
  refine g_xld (by omega) (by omega) hL (show decode cL_law 715 = .ok (.iaload, 1) by decide +kernel) ?_
  have h1 := sx_rng V (i + 1)
  refine c_vI (i := 0) (ps := [vI (sx V (i + 1))]) (r := []) (as := [vR 0, vI (sx V (i + 1))]) (cs' := cs + 0) (sl' := sl + 0) rfl rfl rfl rfl rfl rfl (kl_0 _) (c_back (d := 11 - 1) (q := 406 - (2 + 19)) (by decide) (by decide) i_I (k := (sx V (i + 1))) (show (-2147483648) ≤ (sx V (i + 1)) ∧ (sx V (i + 1)) ≤ 2147483647 by omega) i_W i_P) (by decide) (show 2 + 19 ≤ 406 by decide) (Nat.le_trans (show cs + 0 ≤ 600000 by omega) (Nat.le_of_eq lw_mc.symm)) (Nat.le_trans (show sl + 0 ≤ 7302250 by omega) (Nat.le_of_eq lw_ms.symm)) rfl rfl rfl ?_
  rintro z2 m3 ⟨hm8, hf9, p4, p5, p6, p7⟩
  have h10 : m3.1 3 = m.1 3 := hf9.1 3 rfl
  have h11 : m3.1 7 = m.1 7 := hf9.1 7 rfl
  have h12 : m3.1 8 = m.1 8 := hf9.1 8 rfl
  have h13 : m3.1 10 = m.1 10 := hf9.1 10 rfl
  have h14 : m3.1 22 = m.1 22 := hf9.1 22 rfl
  have h15 : m3.1 23 = m.1 23 := hf9.1 23 rfl
  have h16 : m3.1 25 = m.1 25 := hf9.1 25 rfl
  have h17 : m3.1 26 = m.1 26 := hf9.1 26 rfl
  have h18 : m3.1 28 = m.1 28 := hf9.1 28 rfl
  have h19 : m3.1 39 = m.1 39 := hf9.1 39 rfl
  have y2_m3 : m3.2.1 2 = m.2.1 2 := hf9.2.1 2 rfl
  have y64_m3 : m3.2.1 64 = m.2.1 64 := hf9.2.1 64 rfl
  have t20 : k4 m3 := k4_of (hf9.1 28 rfl) i_4
  have t21 : kD m3 := kD_of (hf9.1 26 rfl) (hf9.2.1 66 rfl) i_D
  have t22 : kK m3 := kK_same (hf9.1 28 rfl) (hf9.2.1 62 rfl) (hf9.2.1 63 rfl) i_K
  refine g_pop rfl rfl ?_
  refine g_aload_n (n := 2) rfl rfl ?_
  refine g_aload_n (n := 0) rfl rfl ?_
  refine g_iload_n (n := 3) rfl rfl ?_
  refine g_iconst rfl ?_
  refine g_iadd rfl ?_
  refine g_xld (by omega) (by omega) hL (show decode cL_law 725 = .ok (.iaload, 1) by decide +kernel) ?_
  have h23 := sx_rng V (i + 1)
  refine c_vI (i := 61) (ps := [vI (sx V (i + 1))]) (r := []) (as := [vR 61, vI (sx V (i + 1))]) (cs' := cs + 0 + 0) (sl' := sl + 0 + 0) rfl rfl rfl rfl rfl rfl (kl_61 _) (d_back (d := 11 - 1) (q := 406 - (2 + 19)) (by decide) (by decide) hm8 (k := (sx V (i + 1))) (show (-2147483648) ≤ (sx V (i + 1)) ∧ (sx V (i + 1)) ≤ 2147483647 by omega) t20 t21 t22) (by decide) (show 2 + 19 ≤ 406 by decide) (Nat.le_trans (show cs + 0 + 0 ≤ 600000 by omega) (Nat.le_of_eq lw_mc.symm)) (Nat.le_trans (show sl + 0 + 0 ≤ 7302250 by omega) (Nat.le_of_eq lw_ms.symm)) rfl rfl rfl ?_
  rintro z24 m25 ⟨hm31, hf32, p26, p27, p28, p29, p30⟩
  have h33 : m25.1 3 = m3.1 3 := hf32.1 3 rfl
  have h34 : m25.1 7 = m3.1 7 := hf32.1 7 rfl
  have h35 : m25.1 8 = m3.1 8 := hf32.1 8 rfl
  have h36 : m25.1 10 = m3.1 10 := hf32.1 10 rfl
  have h37 : m25.1 22 = m3.1 22 := hf32.1 22 rfl
  have h38 : m25.1 23 = m3.1 23 := hf32.1 23 rfl
  have h39 : m25.1 25 = m3.1 25 := hf32.1 25 rfl
  have h40 : m25.1 26 = m3.1 26 := hf32.1 26 rfl
  have h41 : m25.1 28 = m3.1 28 := hf32.1 28 rfl
  have h42 : m25.1 39 = m3.1 39 := hf32.1 39 rfl
  have y2_m25 : m25.2.1 2 = m3.2.1 2 := hf32.2.1 2 rfl
  have y64_m25 : m25.2.1 64 = m3.2.1 64 := hf32.2.1 64 rfl
  have t43 : kW m25 := kW_of (hf32.2.1 18 rfl) p6
  have t44 : kP m25 := kP_fr hf32 rfl rfl p7
  have R_m25 : m25.2.2.1 0 = m3.2.2.1 0 := by rw [hf32.2.2]
  refine g_pop rfl rfl ?_
  refine g_goto rfl ?_
  have r2n : m25.2.1 2 = m25.2.1 64 := by rw [y2_m25, y2_m3, y64_m25, y64_m3, r2]
  have hrl : rl m25 := ⟨by omega, r2n, by omega, by omega, by omega, by omega⟩
  exact K m25 (cs + 0 + 0) (sl + 0 + 0) ⟨hm31, t43, t44, p28, p29, p30, hrl⟩ ⟨by omega, Or.inl (by omega)⟩
theorem w_23 {V : cg_V} (hL : V.2.2.2.1 ≤ 256) {m : kM} {i : Int} {cs sl k : Nat} (hiv : iv m) (hbu : bu cs sl k m) (hk : k ≤ 63) (hi : 0 ≤ i ∧ i + 4 ≤ ((V.2.2.2.1 : Nat) : Int)) (K : ∀ (m' : kM) (cs' sl' : Nat), iv m' → bu cs' sl' (k + 1) m' → cg_G V mL_law 11 406 (fun r => ∃ w9, r = (some (vI 1), w9)) 756 [(3, vI i), (2, vR 61), (1, vR 0), (0, vE 1)] [] (kl m') cs' sl') : cg_G V mL_law 11 406 (fun r => ∃ w9, r = (some (vI 1), w9)) 733 [(3, vI i), (2, vR 61), (1, vR 0), (0, vE 1)] [] (kl m) cs sl := by
  obtain ⟨i_I, i_W, i_P, i_4, i_D, i_K, r3, r2, r7, r8, r10, r22⟩ := hiv
  have b1 := hbu.1
  have pp1 := pp_s k
  have pp2 := pp_s (k + 1)
  have pp3 := pp_le (show k + 1 ≤ 64 by omega)
  have b2 : sl ≤ 267897 + pp (k + 1) := by rcases hbu.2 with h | h <;> omega
  refine g_aload_n (n := 1) rfl rfl ?_
  refine g_aload_n (n := 0) rfl rfl ?_
  refine g_iload_n (n := 3) rfl rfl ?_
  refine g_iconst rfl ?_
  refine g_iadd rfl ?_
  refine g_xld (by omega) (by omega) hL (show decode cL_law 738 = .ok (.iaload, 1) by decide +kernel) ?_
  have h1 := sx_rng V (i + 1)
  refine c_vI (i := 0) (ps := [vI (sx V (i + 1))]) (r := []) (as := [vR 0, vI (sx V (i + 1))]) (cs' := cs + 0) (sl' := sl + 0) rfl rfl rfl rfl rfl rfl (kl_0 _) (c_count (d := 11 - 1) (q := 406 - (2 + 19)) (by decide) (by decide) i_I (w := (sx V (i + 1))) (show (-2147483648) ≤ (sx V (i + 1)) ∧ (sx V (i + 1)) ≤ 2147483647 by omega)) (by decide) (show 2 + 19 ≤ 406 by decide) (Nat.le_trans (show cs + 0 ≤ 600000 by omega) (Nat.le_of_eq lw_mc.symm)) (Nat.le_trans (show sl + 0 ≤ 7302250 by omega) (Nat.le_of_eq lw_ms.symm)) rfl rfl rfl ?_
  rintro z2 m3 ⟨rfl, p4, p5⟩
  refine g_pop rfl rfl ?_
  refine g_aload_n (n := 2) rfl rfl ?_
  refine g_aload_n (n := 0) rfl rfl ?_
  refine g_iload_n (n := 3) rfl rfl ?_
  refine g_iconst rfl ?_
  refine g_iadd rfl ?_
  refine g_xld (by omega) (by omega) hL (show decode cL_law 748 = .ok (.iaload, 1) by decide +kernel) ?_
  have h6 := sx_rng V (i + 1)
  refine c_vI (i := 61) (ps := [vI (sx V (i + 1))]) (r := []) (as := [vR 61, vI (sx V (i + 1))]) (cs' := cs + 0 + 0) (sl' := sl + 0 + 0) rfl rfl rfl rfl rfl rfl (kl_61 _) (d_count (d := 11 - 1) (q := 406 - (2 + 19)) (by decide) (by decide) i_I (w := (sx V (i + 1))) (show (-2147483648) ≤ (sx V (i + 1)) ∧ (sx V (i + 1)) ≤ 2147483647 by omega)) (by decide) (show 2 + 19 ≤ 406 by decide) (Nat.le_trans (show cs + 0 + 0 ≤ 600000 by omega) (Nat.le_of_eq lw_mc.symm)) (Nat.le_trans (show sl + 0 + 0 ≤ 7302250 by omega) (Nat.le_of_eq lw_ms.symm)) rfl rfl rfl ?_
  rintro z7 m8 ⟨rfl, p9, p10⟩
  refine g_pop rfl rfl ?_
  refine g_goto rfl ?_
  have r2n := r2
  have hrl : rl m := ⟨by omega, r2n, by omega, by omega, by omega, by omega⟩
  have hb2 : sl + 0 + 0 ≤ 267897 + pp (k + 1) ∨ (m.2.2.1 0 ≠ vE 0 ∧ sl + 0 + 0 ≤ 267897 + pp (k + 1 + 1)) := by
    rcases hbu.2 with h | ⟨h1, h2⟩
    · left; omega
    · right; refine ⟨?_, by omega⟩
      exact h1
  exact K m (cs + 0 + 0) (sl + 0 + 0) ⟨i_I, i_W, i_P, i_4, i_D, i_K, hrl⟩ ⟨by omega, hb2⟩
