/-! ===== the law, its calls one by one ===== -/
theorem lw_mc : ae_mc mL_law = 600000 := rfl
theorem lw_ms : ae_ms mL_law = 7302250 := rfl
theorem w_0 {V : cg_V} (hL : V.2.2.2.1 ≤ 256) {m : kM} {i : Int} {cs sl k : Nat} (hiv : iv m) (hbu : bu cs sl k m) (hk : k ≤ 63) (hi : 0 ≤ i ∧ i + 4 ≤ ((V.2.2.2.1 : Nat) : Int)) (K : ∀ (m' : kM) (cs' sl' : Nat), iv m' → bu cs' sl' (k + 1) m' → cg_G V mL_law 11 406 (fun r => ∃ w9, r = (some (vI 1), w9)) 756 [(3, vI i), (2, vR 61), (1, vR 0), (0, vE 1)] [] (kl m') cs' sl') : cg_G V mL_law 11 406 (fun r => ∃ w9, r = (some (vI 1), w9)) 144 [(3, vI i), (2, vR 61), (1, vR 0), (0, vE 1)] [] (kl m) cs sl := by
  obtain ⟨i_I, i_W, i_P, i_4, i_D, i_K, r3, r2, r7, r8, r10, r22, r0, rY, rH, rV⟩ := hiv
  have b1 := hbu.1
  have pp1 := pp_s k
  have pp2 := pp_s (k + 1)
  have pp3 := pp_le (show k + 1 ≤ 64 by omega)
  have b2 : sl ≤ 267897 + pp (k + 1) := by rcases hbu.2 with h | h <;> omega
  refine g_aload_n (n := 1) rfl rfl ?_
  refine g_aload_n (n := 0) rfl rfl ?_
  refine g_iload_n (n := 3) rfl rfl ?_
  refine g_iconst rfl ?_
  refine g_iadd rfl ?_
  refine g_xld (by omega) (by omega) hL (show decode cL_law 149 = .ok (.iaload, 1) by decide +kernel) ?_
  have h1 := sx_rng V (i + 1)
  refine g_i2l (by omega) (by omega) rfl ?_
  refine g_bipush (by decide) rfl ?_
  refine g_lshl rfl ?_
  intro z2 h3 h4 h5
  refine g_aload_n (n := 0) rfl rfl ?_
  refine g_iload_n (n := 3) rfl rfl ?_
  refine g_iconst rfl ?_
  refine g_iadd rfl ?_
  refine g_xld (by omega) (by omega) hL (show decode cL_law 158 = .ok (.iaload, 1) by decide +kernel) ?_
  have h6 := sx_rng V (i + 2)
  refine g_i2l (by omega) (by omega) rfl ?_
  refine g_ldc2 (x := 4294967295) (by decide) rfl ?_
  refine g_land rfl ?_
  intro z7 h8 h9 h10
  refine g_lor rfl ?_
  intro z11 h12 h13 h14
  refine g_aload_n (n := 0) rfl rfl ?_
  refine g_iload_n (n := 3) rfl rfl ?_
  refine g_iconst rfl ?_
  refine g_iadd rfl ?_
  refine g_xld (by omega) (by omega) hL (show decode cL_law 169 = .ok (.iaload, 1) by decide +kernel) ?_
  have h15 := sx_rng V (i + 3)
  refine c_vI (i := 0) (ps := [vI (sx V (i + 3)), vL z11]) (r := []) (as := [vR 0, vL z11, vI (sx V (i + 3))]) (cs' := cs + 0) (sl' := sl + 0) rfl rfl rfl rfl rfl rfl (kl_0 _) (c_write (d := 11 - 1) (q := 406 - (4 + 19)) (by decide) (by decide) i_I (x := z11) (n := (sx V (i + 3))) (show (-9223372036854775808) ≤ z11 ∧ z11 ≤ 9223372036854775807 by omega) (show (-2147483648) ≤ (sx V (i + 3)) ∧ (sx V (i + 3)) ≤ 2147483647 by omega)) (by decide) (show 4 + 19 ≤ 406 by decide) (Nat.le_trans (show cs + 0 ≤ 600000 by omega) (Nat.le_of_eq lw_mc.symm)) (Nat.le_trans (show sl + 0 ≤ 7302250 by omega) (Nat.le_of_eq lw_ms.symm)) rfl rfl rfl ?_
  rintro z16 m17 ⟨hm19, hf20, p18⟩
  have h21 : m17.1 0 = m.1 0 := hf20.1 0 rfl
  have h22 : m17.1 7 = m.1 7 := hf20.1 7 rfl
  have h23 : m17.1 8 = m.1 8 := hf20.1 8 rfl
  have h24 : m17.1 10 = m.1 10 := hf20.1 10 rfl
  have h25 : m17.1 12 = m.1 12 := hf20.1 12 rfl
  have h26 : m17.1 22 = m.1 22 := hf20.1 22 rfl
  have h27 : m17.1 23 = m.1 23 := hf20.1 23 rfl
  have h28 : m17.1 25 = m.1 25 := hf20.1 25 rfl
  have h29 : m17.1 26 = m.1 26 := hf20.1 26 rfl
  have h30 : m17.1 28 = m.1 28 := hf20.1 28 rfl
  have h31 : m17.1 30 = m.1 30 := hf20.1 30 rfl
  have h32 : m17.1 38 = m.1 38 := hf20.1 38 rfl
  have h33 : m17.1 39 = m.1 39 := hf20.1 39 rfl
  have y64_m17 : m17.2.1 64 = m.2.1 64 := hf20.2.1 64 rfl
  have y4_m17 : m17.2.1 4 = m.2.1 4 := hf20.2.1 4 rfl
  have y5_m17 : m17.2.1 5 = m.2.1 5 := hf20.2.1 5 rfl
  have y6_m17 : m17.2.1 6 = m.2.1 6 := hf20.2.1 6 rfl
  have y7_m17 : m17.2.1 7 = m.2.1 7 := hf20.2.1 7 rfl
  have y66_m17 : m17.2.1 66 = m.2.1 66 := hf20.2.1 66 rfl
  have y32_m17 : m17.2.1 32 = m.2.1 32 := hf20.2.1 32 rfl
  have y33_m17 : m17.2.1 33 = m.2.1 33 := hf20.2.1 33 rfl
  have y73_m17 : m17.2.1 73 = m.2.1 73 := hf20.2.1 73 rfl
  have t34 : kW m17 := kW_of (hf20.2.1 18 rfl) i_W
  have t35 : kP m17 := kP_fr hf20 rfl rfl i_P
  have t36 : k4 m17 := k4_of (hf20.1 28 rfl) i_4
  have t37 : kD m17 := kD_of (hf20.1 26 rfl) (hf20.2.1 66 rfl) i_D
  have t38 : kK m17 := kK_same (hf20.1 28 rfl) (hf20.2.1 62 rfl) (hf20.2.1 63 rfl) i_K
  have R_m17 : m17.2.2.1 0 = m.2.2.1 0 := by rw [hf20.2.2]
  refine g_pop rfl rfl ?_
  refine g_aload_n (n := 2) rfl rfl ?_
  refine g_aload_n (n := 0) rfl rfl ?_
  refine g_iload_n (n := 3) rfl rfl ?_
  refine g_iconst rfl ?_
  refine g_iadd rfl ?_
  refine g_xld (by omega) (by omega) hL (show decode cL_law 179 = .ok (.iaload, 1) by decide +kernel) ?_
  have h39 := sx_rng V (i + 1)
  refine g_i2l (by omega) (by omega) rfl ?_
  refine g_bipush (by decide) rfl ?_
  refine g_lshl rfl ?_
  intro z40 h41 h42 h43
  obtain rfl : z2 = z40 := h3.trans h41.symm
  refine g_aload_n (n := 0) rfl rfl ?_
  refine g_iload_n (n := 3) rfl rfl ?_
  refine g_iconst rfl ?_
  refine g_iadd rfl ?_
  refine g_xld (by omega) (by omega) hL (show decode cL_law 188 = .ok (.iaload, 1) by decide +kernel) ?_
  have h44 := sx_rng V (i + 2)
  refine g_i2l (by omega) (by omega) rfl ?_
  refine g_ldc2 (x := 4294967295) (by decide) rfl ?_
  refine g_land rfl ?_
  intro z45 h46 h47 h48
  obtain rfl : z7 = z45 := h8.trans h46.symm
  refine g_lor rfl ?_
  intro z49 h50 h51 h52
  obtain rfl : z11 = z49 := h12.trans h50.symm
  refine g_aload_n (n := 0) rfl rfl ?_
  refine g_iload_n (n := 3) rfl rfl ?_
  refine g_iconst rfl ?_
  refine g_iadd rfl ?_
  refine g_xld (by omega) (by omega) hL (show decode cL_law 199 = .ok (.iaload, 1) by decide +kernel) ?_
  have h53 := sx_rng V (i + 3)
  refine c_vI (i := 61) (ps := [vI (sx V (i + 3)), vL z11]) (r := []) (as := [vR 61, vL z11, vI (sx V (i + 3))]) (cs' := cs + 0 + 0) (sl' := sl + 0 + 0) rfl rfl rfl rfl rfl rfl (kl_61 _) (d_write (d := 11 - 1) (q := 406 - (5 + 19)) (by decide) (by decide) hm19 (x := z11) (n := (sx V (i + 3))) (show (-9223372036854775808) ≤ z11 ∧ z11 ≤ 9223372036854775807 by omega) (show (-2147483648) ≤ (sx V (i + 3)) ∧ (sx V (i + 3)) ≤ 2147483647 by omega)) (by decide) (show 5 + 19 ≤ 406 by decide) (Nat.le_trans (show cs + 0 + 0 ≤ 600000 by omega) (Nat.le_of_eq lw_mc.symm)) (Nat.le_trans (show sl + 0 + 0 ≤ 7302250 by omega) (Nat.le_of_eq lw_ms.symm)) rfl rfl rfl ?_
  rintro z54 m55 ⟨hm57, hf58, p56⟩
  have h59 : m55.1 0 = m17.1 0 := hf58.1 0 rfl
  have h60 : m55.1 3 = m17.1 3 := hf58.1 3 rfl
  have h61 : m55.1 7 = m17.1 7 := hf58.1 7 rfl
  have h62 : m55.1 8 = m17.1 8 := hf58.1 8 rfl
  have h63 : m55.1 10 = m17.1 10 := hf58.1 10 rfl
  have h64 : m55.1 12 = m17.1 12 := hf58.1 12 rfl
  have h65 : m55.1 22 = m17.1 22 := hf58.1 22 rfl
  have h66 : m55.1 25 = m17.1 25 := hf58.1 25 rfl
  have h67 : m55.1 26 = m17.1 26 := hf58.1 26 rfl
  have h68 : m55.1 28 = m17.1 28 := hf58.1 28 rfl
  have h69 : m55.1 30 = m17.1 30 := hf58.1 30 rfl
  have h70 : m55.1 38 = m17.1 38 := hf58.1 38 rfl
  have h71 : m55.1 39 = m17.1 39 := hf58.1 39 rfl
  have y2_m55 : m55.2.1 2 = m17.2.1 2 := hf58.2.1 2 rfl
  have y4_m55 : m55.2.1 4 = m17.2.1 4 := hf58.2.1 4 rfl
  have y5_m55 : m55.2.1 5 = m17.2.1 5 := hf58.2.1 5 rfl
  have y6_m55 : m55.2.1 6 = m17.2.1 6 := hf58.2.1 6 rfl
  have y7_m55 : m55.2.1 7 = m17.2.1 7 := hf58.2.1 7 rfl
  have y66_m55 : m55.2.1 66 = m17.2.1 66 := hf58.2.1 66 rfl
  have y32_m55 : m55.2.1 32 = m17.2.1 32 := hf58.2.1 32 rfl
  have y33_m55 : m55.2.1 33 = m17.2.1 33 := hf58.2.1 33 rfl
  have y73_m55 : m55.2.1 73 = m17.2.1 73 := hf58.2.1 73 rfl
  have t72 : kW m55 := kW_of (hf58.2.1 18 rfl) t34
  have t73 : kP m55 := kP_fr hf58 rfl rfl t35
  have t74 : k4 m55 := k4_of (hf58.1 28 rfl) t36
  have t75 : kD m55 := kD_of (hf58.1 26 rfl) (hf58.2.1 66 rfl) t37
  have t76 : kK m55 := kK_same (hf58.1 28 rfl) (hf58.2.1 62 rfl) (hf58.2.1 63 rfl) t38
  have R_m55 : m55.2.2.1 0 = m17.2.2.1 0 := by rw [hf58.2.2]
  refine g_pop rfl rfl ?_
  refine g_goto rfl ?_
  have r2n : m55.2.1 2 = m55.2.1 64 := by
    rcases p18 with a | a
    · rcases p56 with b | b
      · rw [y2_m55, a.2.2.2.2.1, b.2.2.2.2.1, y64_m17, r2, r3, show m17.1 23 = m.1 23 by omega]
      · exfalso; omega
    · rcases p56 with b | b
      · exfalso; omega
      · rw [y2_m55, a.2.2, b.2.2, y64_m17, r2]
  have hYn := DY_mv (show m55.1 26 = m.1 26 by omega) ((y66_m55).trans y66_m17) (show m55.1 30 = m.1 30 by omega) ((y4_m55).trans y4_m17) ((y5_m55).trans y5_m17) ((y6_m55).trans y6_m17) ((y7_m55).trans y7_m17) (show m55.1 12 = m.1 12 by omega) rY
  have hHn := HY_mv (show m55.1 22 = m.1 22 by omega) ((y32_m55).trans y32_m17) ((y33_m55).trans y33_m17) ((y73_m55).trans y73_m17) rH
  have hVn := DV_mv (show m55.1 7 = m.1 7 by omega) (show m55.1 8 = m.1 8 by omega) ((y4_m55).trans y4_m17) ((y5_m55).trans y5_m17) rV
  have hrl : rl m55 := ⟨by omega, r2n, by omega, by omega, by omega, by omega, by omega, hYn, hHn, hVn⟩
  have hb2 : sl + 0 + 0 ≤ 267897 + pp (k + 1) ∨ (m55.2.2.1 0 ≠ vE 0 ∧ sl + 0 + 0 ≤ 267897 + pp (k + 1 + 1)) := by
    rcases hbu.2 with h | ⟨h1, h2⟩
    · left; omega
    · right; refine ⟨?_, by omega⟩
      have u77 : m17.2.2.1 0 ≠ vE 0 := by rw [R_m17]; exact h1
      have u78 : m55.2.2.1 0 ≠ vE 0 := by rw [R_m55]; exact u77
      exact u78
  exact K m55 (cs + 0 + 0) (sl + 0 + 0) ⟨hm57, t72, t73, t74, t75, t76, hrl⟩ ⟨by omega, hb2⟩
theorem w_1 {V : cg_V} (hL : V.2.2.2.1 ≤ 256) {m : kM} {i : Int} {cs sl k : Nat} (hiv : iv m) (hbu : bu cs sl k m) (hk : k ≤ 63) (hi : 0 ≤ i ∧ i + 4 ≤ ((V.2.2.2.1 : Nat) : Int)) (K : ∀ (m' : kM) (cs' sl' : Nat), iv m' → bu cs' sl' (k + 1) m' → cg_G V mL_law 11 406 (fun r => ∃ w9, r = (some (vI 1), w9)) 756 [(3, vI i), (2, vR 61), (1, vR 0), (0, vE 1)] [] (kl m') cs' sl') : cg_G V mL_law 11 406 (fun r => ∃ w9, r = (some (vI 1), w9)) 207 [(3, vI i), (2, vR 61), (1, vR 0), (0, vE 1)] [] (kl m) cs sl := by
  obtain ⟨i_I, i_W, i_P, i_4, i_D, i_K, r3, r2, r7, r8, r10, r22, r0, rY, rH, rV⟩ := hiv
  have b1 := hbu.1
  have pp1 := pp_s k
  have pp2 := pp_s (k + 1)
  have pp3 := pp_le (show k + 1 ≤ 64 by omega)
  have b2 : sl ≤ 267897 + pp (k + 1) := by rcases hbu.2 with h | h <;> omega
  refine g_aload_n (n := 1) rfl rfl ?_
  refine c_vI (i := 0) (ps := []) (r := []) (as := [vR 0]) (cs' := cs + 0) (sl' := sl + 0) rfl rfl rfl rfl rfl rfl (kl_0 _) (c_erase (d := 11 - 1) (q := 406 - (1 + 19)) (by decide) (by decide) i_I  ) (by decide) (show 1 + 19 ≤ 406 by decide) (Nat.le_trans (show cs + 0 ≤ 600000 by omega) (Nat.le_of_eq lw_mc.symm)) (Nat.le_trans (show sl + 0 ≤ 7302250 by omega) (Nat.le_of_eq lw_ms.symm)) rfl rfl rfl ?_
  rintro z1 m2 ⟨hm5, hf6, p3, p4⟩
  have h7 : m2.1 0 = m.1 0 := hf6.1 0 rfl
  have h8 : m2.1 7 = m.1 7 := hf6.1 7 rfl
  have h9 : m2.1 8 = m.1 8 := hf6.1 8 rfl
  have h10 : m2.1 10 = m.1 10 := hf6.1 10 rfl
  have h11 : m2.1 12 = m.1 12 := hf6.1 12 rfl
  have h12 : m2.1 22 = m.1 22 := hf6.1 22 rfl
  have h13 : m2.1 23 = m.1 23 := hf6.1 23 rfl
  have h14 : m2.1 25 = m.1 25 := hf6.1 25 rfl
  have h15 : m2.1 26 = m.1 26 := hf6.1 26 rfl
  have h16 : m2.1 28 = m.1 28 := hf6.1 28 rfl
  have h17 : m2.1 30 = m.1 30 := hf6.1 30 rfl
  have h18 : m2.1 38 = m.1 38 := hf6.1 38 rfl
  have h19 : m2.1 39 = m.1 39 := hf6.1 39 rfl
  have y2_m2 : m2.2.1 2 = m.2.1 2 := hf6.2.1 2 rfl
  have y64_m2 : m2.2.1 64 = m.2.1 64 := hf6.2.1 64 rfl
  have y4_m2 : m2.2.1 4 = m.2.1 4 := hf6.2.1 4 rfl
  have y5_m2 : m2.2.1 5 = m.2.1 5 := hf6.2.1 5 rfl
  have y6_m2 : m2.2.1 6 = m.2.1 6 := hf6.2.1 6 rfl
  have y7_m2 : m2.2.1 7 = m.2.1 7 := hf6.2.1 7 rfl
  have y66_m2 : m2.2.1 66 = m.2.1 66 := hf6.2.1 66 rfl
  have y32_m2 : m2.2.1 32 = m.2.1 32 := hf6.2.1 32 rfl
  have y33_m2 : m2.2.1 33 = m.2.1 33 := hf6.2.1 33 rfl
  have y73_m2 : m2.2.1 73 = m.2.1 73 := hf6.2.1 73 rfl
  have t20 : kW m2 := kW_of (hf6.2.1 18 rfl) i_W
  have t21 : kP m2 := kP_fr hf6 rfl rfl i_P
  have t22 : k4 m2 := k4_of (hf6.1 28 rfl) i_4
  have t23 : kD m2 := kD_of (hf6.1 26 rfl) (hf6.2.1 66 rfl) i_D
  have t24 : kK m2 := kK_same (hf6.1 28 rfl) (hf6.2.1 62 rfl) (hf6.2.1 63 rfl) i_K
  have R_m2 : m2.2.2.1 0 = m.2.2.1 0 := by rw [hf6.2.2]
  refine g_pop rfl rfl ?_
  refine g_aload_n (n := 2) rfl rfl ?_
  refine c_vI (i := 61) (ps := []) (r := []) (as := [vR 61]) (cs' := cs + 0 + 0) (sl' := sl + 0 + 0) rfl rfl rfl rfl rfl rfl (kl_61 _) (d_erase (d := 11 - 1) (q := 406 - (2 + 19)) (by decide) (by decide) hm5  ) (by decide) (show 2 + 19 ≤ 406 by decide) (Nat.le_trans (show cs + 0 + 0 ≤ 600000 by omega) (Nat.le_of_eq lw_mc.symm)) (Nat.le_trans (show sl + 0 + 0 ≤ 7302250 by omega) (Nat.le_of_eq lw_ms.symm)) rfl rfl rfl ?_
  rintro z25 m26 ⟨hm29, hf30, p27, p28⟩
  have h31 : m26.1 0 = m2.1 0 := hf30.1 0 rfl
  have h32 : m26.1 3 = m2.1 3 := hf30.1 3 rfl
  have h33 : m26.1 7 = m2.1 7 := hf30.1 7 rfl
  have h34 : m26.1 8 = m2.1 8 := hf30.1 8 rfl
  have h35 : m26.1 10 = m2.1 10 := hf30.1 10 rfl
  have h36 : m26.1 12 = m2.1 12 := hf30.1 12 rfl
  have h37 : m26.1 22 = m2.1 22 := hf30.1 22 rfl
  have h38 : m26.1 25 = m2.1 25 := hf30.1 25 rfl
  have h39 : m26.1 26 = m2.1 26 := hf30.1 26 rfl
  have h40 : m26.1 28 = m2.1 28 := hf30.1 28 rfl
  have h41 : m26.1 30 = m2.1 30 := hf30.1 30 rfl
  have h42 : m26.1 38 = m2.1 38 := hf30.1 38 rfl
  have h43 : m26.1 39 = m2.1 39 := hf30.1 39 rfl
  have y2_m26 : m26.2.1 2 = m2.2.1 2 := hf30.2.1 2 rfl
  have y64_m26 : m26.2.1 64 = m2.2.1 64 := hf30.2.1 64 rfl
  have y4_m26 : m26.2.1 4 = m2.2.1 4 := hf30.2.1 4 rfl
  have y5_m26 : m26.2.1 5 = m2.2.1 5 := hf30.2.1 5 rfl
  have y6_m26 : m26.2.1 6 = m2.2.1 6 := hf30.2.1 6 rfl
  have y7_m26 : m26.2.1 7 = m2.2.1 7 := hf30.2.1 7 rfl
  have y66_m26 : m26.2.1 66 = m2.2.1 66 := hf30.2.1 66 rfl
  have y32_m26 : m26.2.1 32 = m2.2.1 32 := hf30.2.1 32 rfl
  have y33_m26 : m26.2.1 33 = m2.2.1 33 := hf30.2.1 33 rfl
  have y73_m26 : m26.2.1 73 = m2.2.1 73 := hf30.2.1 73 rfl
  have t44 : kW m26 := kW_of (hf30.2.1 18 rfl) t20
  have t45 : kP m26 := kP_fr hf30 rfl rfl t21
  have t46 : k4 m26 := k4_of (hf30.1 28 rfl) t22
  have t47 : kD m26 := kD_of (hf30.1 26 rfl) (hf30.2.1 66 rfl) t23
  have t48 : kK m26 := kK_same (hf30.1 28 rfl) (hf30.2.1 62 rfl) (hf30.2.1 63 rfl) t24
  have R_m26 : m26.2.2.1 0 = m2.2.2.1 0 := by rw [hf30.2.2]
  refine g_pop rfl rfl ?_
  refine g_goto rfl ?_
  have r2n : m26.2.1 2 = m26.2.1 64 := by rw [y2_m26, y2_m2, y64_m26, y64_m2, r2]
  have hYn := DY_mv (show m26.1 26 = m.1 26 by omega) ((y66_m26).trans y66_m2) (show m26.1 30 = m.1 30 by omega) ((y4_m26).trans y4_m2) ((y5_m26).trans y5_m2) ((y6_m26).trans y6_m2) ((y7_m26).trans y7_m2) (show m26.1 12 = m.1 12 by omega) rY
  have hHn := HY_mv (show m26.1 22 = m.1 22 by omega) ((y32_m26).trans y32_m2) ((y33_m26).trans y33_m2) ((y73_m26).trans y73_m2) rH
  have hVn := DV_mv (show m26.1 7 = m.1 7 by omega) (show m26.1 8 = m.1 8 by omega) ((y4_m26).trans y4_m2) ((y5_m26).trans y5_m2) rV
  have hrl : rl m26 := ⟨by omega, r2n, by omega, by omega, by omega, by omega, by omega, hYn, hHn, hVn⟩
  have hb2 : sl + 0 + 0 ≤ 267897 + pp (k + 1) ∨ (m26.2.2.1 0 ≠ vE 0 ∧ sl + 0 + 0 ≤ 267897 + pp (k + 1 + 1)) := by
    rcases hbu.2 with h | ⟨h1, h2⟩
    · left; omega
    · right; refine ⟨?_, by omega⟩
      have u49 : m2.2.2.1 0 ≠ vE 0 := by rw [R_m2]; exact h1
      have u50 : m26.2.2.1 0 ≠ vE 0 := by rw [R_m26]; exact u49
      exact u50
  exact K m26 (cs + 0 + 0) (sl + 0 + 0) ⟨hm29, t44, t45, t46, t47, t48, hrl⟩ ⟨by omega, hb2⟩
theorem w_2 {V : cg_V} (hL : V.2.2.2.1 ≤ 256) {m : kM} {i : Int} {cs sl k : Nat} (hiv : iv m) (hbu : bu cs sl k m) (hk : k ≤ 63) (hi : 0 ≤ i ∧ i + 4 ≤ ((V.2.2.2.1 : Nat) : Int)) (K : ∀ (m' : kM) (cs' sl' : Nat), iv m' → bu cs' sl' (k + 1) m' → cg_G V mL_law 11 406 (fun r => ∃ w9, r = (some (vI 1), w9)) 756 [(3, vI i), (2, vR 61), (1, vR 0), (0, vE 1)] [] (kl m') cs' sl') : cg_G V mL_law 11 406 (fun r => ∃ w9, r = (some (vI 1), w9)) 220 [(3, vI i), (2, vR 61), (1, vR 0), (0, vE 1)] [] (kl m) cs sl := by
  obtain ⟨i_I, i_W, i_P, i_4, i_D, i_K, r3, r2, r7, r8, r10, r22, r0, rY, rH, rV⟩ := hiv
  have b1 := hbu.1
  have pp1 := pp_s k
  have pp2 := pp_s (k + 1)
  have pp3 := pp_le (show k + 1 ≤ 64 by omega)
  have b2 : sl ≤ 267897 + pp (k + 1) := by rcases hbu.2 with h | h <;> omega
  refine g_aload_n (n := 1) rfl rfl ?_
  refine c_vI (i := 0) (ps := []) (r := []) (as := [vR 0]) (cs' := cs + 0) (sl' := sl + 0) rfl rfl rfl rfl rfl rfl (kl_0 _) (c_fault (d := 11 - 1) (q := 406 - (1 + 19)) (by decide) (by decide) i_I  ) (by decide) (show 1 + 19 ≤ 406 by decide) (Nat.le_trans (show cs + 0 ≤ 600000 by omega) (Nat.le_of_eq lw_mc.symm)) (Nat.le_trans (show sl + 0 ≤ 7302250 by omega) (Nat.le_of_eq lw_ms.symm)) rfl rfl rfl ?_
  rintro z1 m2 ⟨hm4, hf5, p3⟩
  have h6 : m2.1 0 = m.1 0 := hf5.1 0 rfl
  have h7 : m2.1 3 = m.1 3 := hf5.1 3 rfl
  have h8 : m2.1 7 = m.1 7 := hf5.1 7 rfl
  have h9 : m2.1 8 = m.1 8 := hf5.1 8 rfl
  have h10 : m2.1 10 = m.1 10 := hf5.1 10 rfl
  have h11 : m2.1 12 = m.1 12 := hf5.1 12 rfl
  have h12 : m2.1 22 = m.1 22 := hf5.1 22 rfl
  have h13 : m2.1 23 = m.1 23 := hf5.1 23 rfl
  have h14 : m2.1 25 = m.1 25 := hf5.1 25 rfl
  have h15 : m2.1 26 = m.1 26 := hf5.1 26 rfl
  have h16 : m2.1 28 = m.1 28 := hf5.1 28 rfl
  have h17 : m2.1 30 = m.1 30 := hf5.1 30 rfl
  have h18 : m2.1 38 = m.1 38 := hf5.1 38 rfl
  have h19 : m2.1 39 = m.1 39 := hf5.1 39 rfl
  have y2_m2 : m2.2.1 2 = m.2.1 2 := hf5.2.1 2 rfl
  have y64_m2 : m2.2.1 64 = m.2.1 64 := hf5.2.1 64 rfl
  have y4_m2 : m2.2.1 4 = m.2.1 4 := hf5.2.1 4 rfl
  have y5_m2 : m2.2.1 5 = m.2.1 5 := hf5.2.1 5 rfl
  have y6_m2 : m2.2.1 6 = m.2.1 6 := hf5.2.1 6 rfl
  have y7_m2 : m2.2.1 7 = m.2.1 7 := hf5.2.1 7 rfl
  have y66_m2 : m2.2.1 66 = m.2.1 66 := hf5.2.1 66 rfl
  have y32_m2 : m2.2.1 32 = m.2.1 32 := hf5.2.1 32 rfl
  have y33_m2 : m2.2.1 33 = m.2.1 33 := hf5.2.1 33 rfl
  have y73_m2 : m2.2.1 73 = m.2.1 73 := hf5.2.1 73 rfl
  have t20 : kW m2 := kW_of (hf5.2.1 18 rfl) i_W
  have t21 : kP m2 := kP_fr hf5 rfl rfl i_P
  have t22 : k4 m2 := k4_of (hf5.1 28 rfl) i_4
  have t23 : kD m2 := kD_of (hf5.1 26 rfl) (hf5.2.1 66 rfl) i_D
  have t24 : kK m2 := kK_same (hf5.1 28 rfl) (hf5.2.1 62 rfl) (hf5.2.1 63 rfl) i_K
  have R_m2 : m2.2.2.1 0 = m.2.2.1 0 := by rw [hf5.2.2]
  refine g_aload_n (n := 2) rfl rfl ?_
  refine c_vI (i := 61) (ps := []) (r := [vI z1]) (as := [vR 61]) (cs' := cs + 0 + 0) (sl' := sl + 0 + 0) rfl rfl rfl rfl rfl rfl (kl_61 _) (d_fault (d := 11 - 1) (q := 406 - (2 + 19)) (by decide) (by decide) hm4  t22) (by decide) (show 2 + 19 ≤ 406 by decide) (Nat.le_trans (show cs + 0 + 0 ≤ 600000 by omega) (Nat.le_of_eq lw_mc.symm)) (Nat.le_trans (show sl + 0 + 0 ≤ 7302250 by omega) (Nat.le_of_eq lw_ms.symm)) rfl rfl rfl ?_
  rintro z25 m26 ⟨hm31, hf32, p27, p28, p29, p30⟩
  have h33 : m26.1 0 = m2.1 0 := hf32.1 0 rfl
  have h34 : m26.1 3 = m2.1 3 := hf32.1 3 rfl
  have h35 : m26.1 7 = m2.1 7 := hf32.1 7 rfl
  have h36 : m26.1 8 = m2.1 8 := hf32.1 8 rfl
  have h37 : m26.1 10 = m2.1 10 := hf32.1 10 rfl
  have h38 : m26.1 12 = m2.1 12 := hf32.1 12 rfl
  have h39 : m26.1 22 = m2.1 22 := hf32.1 22 rfl
  have h40 : m26.1 23 = m2.1 23 := hf32.1 23 rfl
  have h41 : m26.1 25 = m2.1 25 := hf32.1 25 rfl
  have h42 : m26.1 26 = m2.1 26 := hf32.1 26 rfl
  have h43 : m26.1 28 = m2.1 28 := hf32.1 28 rfl
  have h44 : m26.1 30 = m2.1 30 := hf32.1 30 rfl
  have h45 : m26.1 38 = m2.1 38 := hf32.1 38 rfl
  have h46 : m26.1 39 = m2.1 39 := hf32.1 39 rfl
  have y2_m26 : m26.2.1 2 = m2.2.1 2 := hf32.2.1 2 rfl
  have y64_m26 : m26.2.1 64 = m2.2.1 64 := hf32.2.1 64 rfl
  have y4_m26 : m26.2.1 4 = m2.2.1 4 := hf32.2.1 4 rfl
  have y5_m26 : m26.2.1 5 = m2.2.1 5 := hf32.2.1 5 rfl
  have y6_m26 : m26.2.1 6 = m2.2.1 6 := hf32.2.1 6 rfl
  have y7_m26 : m26.2.1 7 = m2.2.1 7 := hf32.2.1 7 rfl
  have y66_m26 : m26.2.1 66 = m2.2.1 66 := hf32.2.1 66 rfl
  have y32_m26 : m26.2.1 32 = m2.2.1 32 := hf32.2.1 32 rfl
  have y33_m26 : m26.2.1 33 = m2.2.1 33 := hf32.2.1 33 rfl
  have y73_m26 : m26.2.1 73 = m2.2.1 73 := hf32.2.1 73 rfl
  have t47 : kW m26 := kW_of (hf32.2.1 18 rfl) t20
  have t48 : kP m26 := kP_fr hf32 rfl rfl t21
  have t49 : k4 m26 := k4_of (hf32.1 28 rfl) t22
  have t50 : kD m26 := kD_of (hf32.1 26 rfl) (hf32.2.1 66 rfl) t23
  have t51 : kK m26 := kK_same (hf32.1 28 rfl) (hf32.2.1 62 rfl) (hf32.2.1 63 rfl) t24
  have R_m26 : m26.2.2.1 0 = m2.2.2.1 0 := by rw [hf32.2.2]
  have eR9 : RD (m2.2.1 64) (m2.1 23) 10 0 (m2.1 25) (m2.1 26) (m2.1 28) = RD (m.2.1 2) (m.1 3) 10 0 (m.1 7) (m.1 8) (m.1 10) := by rw [y64_m2, ← r2, show m2.1 23 = m.1 3 by omega, show m2.1 25 = m.1 7 by omega, show m2.1 26 = m.1 8 by omega, show m2.1 28 = m.1 10 by omega]
  have g9 := p27
  rw [eR9] at g9
  have hz : z1 = z25 := by omega
  have ra : -2147483648 ≤ z1 ∧ z1 < 2147483648 := by omega
  have rb : -2147483648 ≤ z25 ∧ z25 < 2147483648 := by omega
  refine g_icmp_eq ra.1 ra.2 rb.1 rb.2 rfl ?_ (fun kk => absurd hz kk)
  intro kk
  have r2n : m26.2.1 2 = m26.2.1 64 := by rw [y2_m26, y2_m2, y64_m26, y64_m2, r2]
  have hYn := DY_mv (show m26.1 26 = m.1 26 by omega) ((y66_m26).trans y66_m2) (show m26.1 30 = m.1 30 by omega) ((y4_m26).trans y4_m2) ((y5_m26).trans y5_m2) ((y6_m26).trans y6_m2) ((y7_m26).trans y7_m2) (show m26.1 12 = m.1 12 by omega) rY
  have hHn := HY_mv (show m26.1 22 = m.1 22 by omega) ((y32_m26).trans y32_m2) ((y33_m26).trans y33_m2) ((y73_m26).trans y73_m2) rH
  have hVn := DV_mv (show m26.1 7 = m.1 7 by omega) (show m26.1 8 = m.1 8 by omega) ((y4_m26).trans y4_m2) ((y5_m26).trans y5_m2) rV
  have hrl : rl m26 := ⟨by omega, r2n, by omega, by omega, by omega, by omega, by omega, hYn, hHn, hVn⟩
  have hb2 : sl + 0 + 0 ≤ 267897 + pp (k + 1) ∨ (m26.2.2.1 0 ≠ vE 0 ∧ sl + 0 + 0 ≤ 267897 + pp (k + 1 + 1)) := by
    rcases hbu.2 with h | ⟨h1, h2⟩
    · left; omega
    · right; refine ⟨?_, by omega⟩
      have u52 : m2.2.2.1 0 ≠ vE 0 := by rw [R_m2]; exact h1
      have u53 : m26.2.2.1 0 ≠ vE 0 := by rw [R_m26]; exact u52
      exact u53
  exact K m26 (cs + 0 + 0) (sl + 0 + 0) ⟨hm31, t47, t48, t49, t50, t51, hrl⟩ ⟨by omega, hb2⟩
theorem w_3 {V : cg_V} (hL : V.2.2.2.1 ≤ 256) {m : kM} {i : Int} {cs sl k : Nat} (hiv : iv m) (hbu : bu cs sl k m) (hk : k ≤ 63) (hi : 0 ≤ i ∧ i + 4 ≤ ((V.2.2.2.1 : Nat) : Int)) (K : ∀ (m' : kM) (cs' sl' : Nat), iv m' → bu cs' sl' (k + 1) m' → cg_G V mL_law 11 406 (fun r => ∃ w9, r = (some (vI 1), w9)) 756 [(3, vI i), (2, vR 61), (1, vR 0), (0, vE 1)] [] (kl m') cs' sl') : cg_G V mL_law 11 406 (fun r => ∃ w9, r = (some (vI 1), w9)) 233 [(3, vI i), (2, vR 61), (1, vR 0), (0, vE 1)] [] (kl m) cs sl := by
  obtain ⟨i_I, i_W, i_P, i_4, i_D, i_K, r3, r2, r7, r8, r10, r22, r0, rY, rH, rV⟩ := hiv
  have b1 := hbu.1
  have pp1 := pp_s k
  have pp2 := pp_s (k + 1)
  have pp3 := pp_le (show k + 1 ≤ 64 by omega)
  have b2 : sl ≤ 267897 + pp (k + 1) := by rcases hbu.2 with h | h <;> omega
  refine g_aload_n (n := 1) rfl rfl ?_
  refine c_vI (i := 0) (ps := []) (r := []) (as := [vR 0]) (cs' := cs + 0) (sl' := sl + 0) rfl rfl rfl rfl rfl rfl (kl_0 _) (c_gaol (d := 11 - 1) (q := 406 - (1 + 19)) (by decide) (by decide) i_I  i_W i_P) (by decide) (show 1 + 19 ≤ 406 by decide) (Nat.le_trans (show cs + 0 ≤ 600000 by omega) (Nat.le_of_eq lw_mc.symm)) (Nat.le_trans (show sl + 0 ≤ 7302250 by omega) (Nat.le_of_eq lw_ms.symm)) rfl rfl rfl ?_
  rintro z1 m2 ⟨hm6, hf7, p3, p4, p5⟩
  have h8 : m2.1 23 = m.1 23 := hf7.1 23 rfl
  have h9 : m2.1 25 = m.1 25 := hf7.1 25 rfl
  have h10 : m2.1 26 = m.1 26 := hf7.1 26 rfl
  have h11 : m2.1 28 = m.1 28 := hf7.1 28 rfl
  have h12 : m2.1 30 = m.1 30 := hf7.1 30 rfl
  have h13 : m2.1 38 = m.1 38 := hf7.1 38 rfl
  have h14 : m2.1 39 = m.1 39 := hf7.1 39 rfl
  have y2_m2 : m2.2.1 2 = m.2.1 2 := hf7.2.1 2 rfl
  have y64_m2 : m2.2.1 64 = m.2.1 64 := hf7.2.1 64 rfl
  have y66_m2 : m2.2.1 66 = m.2.1 66 := hf7.2.1 66 rfl
  have y32_m2 : m2.2.1 32 = m.2.1 32 := hf7.2.1 32 rfl
  have y33_m2 : m2.2.1 33 = m.2.1 33 := hf7.2.1 33 rfl
  have y73_m2 : m2.2.1 73 = m.2.1 73 := hf7.2.1 73 rfl
  have t15 : k4 m2 := k4_of (hf7.1 28 rfl) i_4
  have t16 : kD m2 := kD_of (hf7.1 26 rfl) (hf7.2.1 66 rfl) i_D
  have t17 : kK m2 := kK_same (hf7.1 28 rfl) (hf7.2.1 62 rfl) (hf7.2.1 63 rfl) i_K
  refine g_pop rfl rfl ?_
  refine g_aload_n (n := 2) rfl rfl ?_
  refine c_vI (i := 61) (ps := []) (r := []) (as := [vR 61]) (cs' := cs + 0 + 0) (sl' := sl + 0 + 0) rfl rfl rfl rfl rfl rfl (kl_61 _) (d_gaol (d := 11 - 1) (q := 406 - (2 + 19)) (by decide) (by decide) hm6  t15 t16 t17) (by decide) (show 2 + 19 ≤ 406 by decide) (Nat.le_trans (show cs + 0 + 0 ≤ 600000 by omega) (Nat.le_of_eq lw_mc.symm)) (Nat.le_trans (show sl + 0 + 0 ≤ 7302250 by omega) (Nat.le_of_eq lw_ms.symm)) rfl rfl rfl ?_
  rintro z18 m19 ⟨hm24, hf25, p20, p21, p22, p23⟩
  have h26 : m19.1 0 = m2.1 0 := hf25.1 0 rfl
  have h27 : m19.1 3 = m2.1 3 := hf25.1 3 rfl
  have h28 : m19.1 7 = m2.1 7 := hf25.1 7 rfl
  have h29 : m19.1 8 = m2.1 8 := hf25.1 8 rfl
  have h30 : m19.1 10 = m2.1 10 := hf25.1 10 rfl
  have h31 : m19.1 12 = m2.1 12 := hf25.1 12 rfl
  have h32 : m19.1 22 = m2.1 22 := hf25.1 22 rfl
  have y2_m19 : m19.2.1 2 = m2.2.1 2 := hf25.2.1 2 rfl
  have y64_m19 : m19.2.1 64 = m2.2.1 64 := hf25.2.1 64 rfl
  have y4_m19 : m19.2.1 4 = m2.2.1 4 := hf25.2.1 4 rfl
  have y5_m19 : m19.2.1 5 = m2.2.1 5 := hf25.2.1 5 rfl
  have y6_m19 : m19.2.1 6 = m2.2.1 6 := hf25.2.1 6 rfl
  have y7_m19 : m19.2.1 7 = m2.2.1 7 := hf25.2.1 7 rfl
  have y32_m19 : m19.2.1 32 = m2.2.1 32 := hf25.2.1 32 rfl
  have y33_m19 : m19.2.1 33 = m2.2.1 33 := hf25.2.1 33 rfl
  have y73_m19 : m19.2.1 73 = m2.2.1 73 := hf25.2.1 73 rfl
  have t33 : kW m19 := kW_of (hf25.2.1 18 rfl) p4
  have t34 : kP m19 := kP_fr hf25 rfl rfl p5
  have R_m19 : m19.2.2.1 0 = m2.2.2.1 0 := by rw [hf25.2.2]
  refine g_pop rfl rfl ?_
  refine g_goto rfl ?_
  have eR : RD (m2.2.1 64) (m2.1 23) 10 0 (m2.1 25) (m2.1 26) (m2.1 28) = RD (m.2.1 2) (m.1 3) 10 0 (m.1 7) (m.1 8) (m.1 10) := by rw [y64_m2, ← r2, show m2.1 23 = m.1 3 by omega, show m2.1 25 = m.1 7 by omega, show m2.1 26 = m.1 8 by omega, show m2.1 28 = m.1 10 by omega]
  have g2 := p20
  rw [eR] at g2
  have r2n : m19.2.1 2 = m19.2.1 64 := by rw [y2_m19, y64_m19, y2_m2, y64_m2, r2]
  have yA : DY m2 (m.2.1 4, m.2.1 5, m.2.1 6, m.2.1 7, m.1 12) := DY_of (show m2.1 26 = m.1 26 by omega) y66_m2 (show m2.1 30 = m.1 30 by omega) rY
  have eG : ∀ g : kY, RG (m2.2.1 64) (m2.1 23) 10 0 (m2.1 25) (m2.1 26) (m2.1 28) g = RG (m.2.1 2) (m.1 3) 10 0 (m.1 7) (m.1 8) (m.1 10) g := fun g => by rw [y64_m2, ← r2, show m2.1 23 = m.1 3 by omega, show m2.1 25 = m.1 7 by omega, show m2.1 26 = m.1 8 by omega, show m2.1 28 = m.1 10 by omega]
  have yB : (m19.2.1 4, m19.2.1 5, m19.2.1 6, m19.2.1 7, m19.1 12) = (m2.2.1 4, m2.2.1 5, m2.2.1 6, m2.2.1 7, m2.1 12) := kY_eq y4_m19 y5_m19 y6_m19 y7_m19 (show m19.1 12 = m2.1 12 by omega)
  have hYn : DY m19 (m19.2.1 4, m19.2.1 5, m19.2.1 6, m19.2.1 7, m19.1 12) := by
    rw [yB]
    rcases p3 with a | a
    · rcases g2 with b | b
      · rw [a.2.2.2.2.2.2.2.2, ← eG]; exact b.2.2.2.2.2.2.2.2 _ yA
      · exact absurd a.1 b.1
    · rcases g2 with b | b
      · exact absurd b.1 a.1
      · rw [a.2.2.2.2.2.2.2.2]; exact b.2.2.2.2.2.2.2.2 _ yA
  have hHn : HY m19 := by
    intro j h0 h1
    by_cases q : m19.1 22 = m.1 22
    · rw [((y73_m19).trans y73_m2), ((y32_m19).trans y32_m2), ((y33_m19).trans y33_m2)]; exact rH j h0 (by omega)
    · exfalso; clear g2; omega
  have vA : DV m2 := by
    rcases p3 with a | a
    · exact DV_rg (show 0 ≤ m.1 7 by have h9 : (2 : Int) ≤ m.1 7 ∧ m.1 7 ≤ 6 := i_I.1 7; omega) a.2.2.1 a.2.2.2.1 a.2.2.2.2.2.2.2.2 rV
    · have e9 := a.2.2.2.2.2.2.2.2; exact DV_mv a.2.2.1 a.2.2.2.1 (congrArg (fun x : kY => x.1) e9) (congrArg (fun x : kY => x.2.1) e9) rV
  have hVn : DV m19 := DV_mv (show m19.1 7 = m2.1 7 by omega) (show m19.1 8 = m2.1 8 by omega) y4_m19 y5_m19 vA
  have hrl : rl m19 := ⟨by omega, r2n, by omega, by omega, by omega, by omega, by omega, hYn, hHn, hVn⟩
  exact K m19 (cs + 0 + 0) (sl + 0 + 0) ⟨hm24, t33, t34, p21, p22, p23, hrl⟩ ⟨by omega, Or.inl (by omega)⟩
theorem w_4 {V : cg_V} (hL : V.2.2.2.1 ≤ 256) {m : kM} {i : Int} {cs sl k : Nat} (hiv : iv m) (hbu : bu cs sl k m) (hk : k ≤ 63) (hi : 0 ≤ i ∧ i + 4 ≤ ((V.2.2.2.1 : Nat) : Int)) (K : ∀ (m' : kM) (cs' sl' : Nat), iv m' → bu cs' sl' (k + 1) m' → cg_G V mL_law 11 406 (fun r => ∃ w9, r = (some (vI 1), w9)) 756 [(3, vI i), (2, vR 61), (1, vR 0), (0, vE 1)] [] (kl m') cs' sl') : cg_G V mL_law 11 406 (fun r => ∃ w9, r = (some (vI 1), w9)) 246 [(3, vI i), (2, vR 61), (1, vR 0), (0, vE 1)] [] (kl m) cs sl := by
  obtain ⟨i_I, i_W, i_P, i_4, i_D, i_K, r3, r2, r7, r8, r10, r22, r0, rY, rH, rV⟩ := hiv
  have b1 := hbu.1
  have pp1 := pp_s k
  have pp2 := pp_s (k + 1)
  have pp3 := pp_le (show k + 1 ≤ 64 by omega)
  have b2 : sl ≤ 267897 + pp (k + 1) := by rcases hbu.2 with h | h <;> omega
  refine g_aload_n (n := 1) rfl rfl ?_
  refine g_aload_n (n := 0) rfl rfl ?_
  refine g_iload_n (n := 3) rfl rfl ?_
  refine g_iconst rfl ?_
  refine g_iadd rfl ?_
  refine g_xld (by omega) (by omega) hL (show decode cL_law 251 = .ok (.iaload, 1) by decide +kernel) ?_
  have h1 := sx_rng V (i + 1)
  refine g_aload_n (n := 0) rfl rfl ?_
  refine g_iload_n (n := 3) rfl rfl ?_
  refine g_iconst rfl ?_
  refine g_iadd rfl ?_
  refine g_xld (by omega) (by omega) hL (show decode cL_law 256 = .ok (.iaload, 1) by decide +kernel) ?_
  have h2 := sx_rng V (i + 2)
  refine c_vI (i := 0) (ps := [vI (sx V (i + 2)), vI (sx V (i + 1))]) (r := []) (as := [vR 0, vI (sx V (i + 1)), vI (sx V (i + 2))]) (cs' := cs + 0) (sl' := sl + 0) rfl rfl rfl rfl rfl rfl (kl_0 _) (c_room (d := 11 - 1) (q := 406 - (3 + 19)) (by decide) (by decide) i_I (r := (sx V (i + 1))) (w := (sx V (i + 2))) (show (-2147483648) ≤ (sx V (i + 1)) ∧ (sx V (i + 1)) ≤ 2147483647 by omega) (show (-2147483648) ≤ (sx V (i + 2)) ∧ (sx V (i + 2)) ≤ 2147483647 by omega)) (by decide) (show 3 + 19 ≤ 406 by decide) (Nat.le_trans (show cs + 0 ≤ 600000 by omega) (Nat.le_of_eq lw_mc.symm)) (Nat.le_trans (show sl + 0 ≤ 7302250 by omega) (Nat.le_of_eq lw_ms.symm)) rfl rfl rfl ?_
  rintro z3 m4 ⟨rfl, p5, p6⟩
  refine g_pop rfl rfl ?_
  refine g_aload_n (n := 2) rfl rfl ?_
  refine g_aload_n (n := 0) rfl rfl ?_
  refine g_iload_n (n := 3) rfl rfl ?_
  refine g_iconst rfl ?_
  refine g_iadd rfl ?_
  refine g_xld (by omega) (by omega) hL (show decode cL_law 266 = .ok (.iaload, 1) by decide +kernel) ?_
  have h7 := sx_rng V (i + 1)
  refine g_aload_n (n := 0) rfl rfl ?_
  refine g_iload_n (n := 3) rfl rfl ?_
  refine g_iconst rfl ?_
  refine g_iadd rfl ?_
  refine g_xld (by omega) (by omega) hL (show decode cL_law 271 = .ok (.iaload, 1) by decide +kernel) ?_
  have h8 := sx_rng V (i + 2)
  refine c_vI (i := 61) (ps := [vI (sx V (i + 2)), vI (sx V (i + 1))]) (r := []) (as := [vR 61, vI (sx V (i + 1)), vI (sx V (i + 2))]) (cs' := cs + 0 + 0) (sl' := sl + 0 + 0) rfl rfl rfl rfl rfl rfl (kl_61 _) (d_room (d := 11 - 1) (q := 406 - (3 + 19)) (by decide) (by decide) i_I (r := (sx V (i + 1))) (w := (sx V (i + 2))) (show (-2147483648) ≤ (sx V (i + 1)) ∧ (sx V (i + 1)) ≤ 2147483647 by omega) (show (-2147483648) ≤ (sx V (i + 2)) ∧ (sx V (i + 2)) ≤ 2147483647 by omega)) (by decide) (show 3 + 19 ≤ 406 by decide) (Nat.le_trans (show cs + 0 + 0 ≤ 600000 by omega) (Nat.le_of_eq lw_mc.symm)) (Nat.le_trans (show sl + 0 + 0 ≤ 7302250 by omega) (Nat.le_of_eq lw_ms.symm)) rfl rfl rfl ?_
  rintro z9 m10 ⟨rfl, p11, p12⟩
  refine g_pop rfl rfl ?_
  refine g_goto rfl ?_
  have r2n := r2
  have hYn := rY
  have hHn := rH
  have hVn := rV
  have hrl : rl m := ⟨by omega, r2n, by omega, by omega, by omega, by omega, by omega, hYn, hHn, hVn⟩
  have hb2 : sl + 0 + 0 ≤ 267897 + pp (k + 1) ∨ (m.2.2.1 0 ≠ vE 0 ∧ sl + 0 + 0 ≤ 267897 + pp (k + 1 + 1)) := by
    rcases hbu.2 with h | ⟨h1, h2⟩
    · left; omega
    · right; refine ⟨?_, by omega⟩
      exact h1
  exact K m (cs + 0 + 0) (sl + 0 + 0) ⟨i_I, i_W, i_P, i_4, i_D, i_K, hrl⟩ ⟨by omega, hb2⟩
theorem w_5 {V : cg_V} (hL : V.2.2.2.1 ≤ 256) {m : kM} {i : Int} {cs sl k : Nat} (hiv : iv m) (hbu : bu cs sl k m) (hk : k ≤ 63) (hi : 0 ≤ i ∧ i + 4 ≤ ((V.2.2.2.1 : Nat) : Int)) (K : ∀ (m' : kM) (cs' sl' : Nat), iv m' → bu cs' sl' (k + 1) m' → cg_G V mL_law 11 406 (fun r => ∃ w9, r = (some (vI 1), w9)) 756 [(3, vI i), (2, vR 61), (1, vR 0), (0, vE 1)] [] (kl m') cs' sl') : cg_G V mL_law 11 406 (fun r => ∃ w9, r = (some (vI 1), w9)) 279 [(3, vI i), (2, vR 61), (1, vR 0), (0, vE 1)] [] (kl m) cs sl := by
  obtain ⟨i_I, i_W, i_P, i_4, i_D, i_K, r3, r2, r7, r8, r10, r22, r0, rY, rH, rV⟩ := hiv
  have b1 := hbu.1
  have pp1 := pp_s k
  have pp2 := pp_s (k + 1)
  have pp3 := pp_le (show k + 1 ≤ 64 by omega)
  have b2 : sl ≤ 267897 + pp (k + 1) := by rcases hbu.2 with h | h <;> omega
  refine g_aload_n (n := 1) rfl rfl ?_
  refine g_aload_n (n := 0) rfl rfl ?_
  refine g_iload_n (n := 3) rfl rfl ?_
  refine g_iconst rfl ?_
  refine g_iadd rfl ?_
  refine g_xld (by omega) (by omega) hL (show decode cL_law 284 = .ok (.iaload, 1) by decide +kernel) ?_
  have h1 := sx_rng V (i + 1)
  refine g_aload_n (n := 0) rfl rfl ?_
  refine g_iload_n (n := 3) rfl rfl ?_
  refine g_iconst rfl ?_
  refine g_iadd rfl ?_
  refine g_xld (by omega) (by omega) hL (show decode cL_law 289 = .ok (.iaload, 1) by decide +kernel) ?_
  have h2 := sx_rng V (i + 2)
  refine c_vI (i := 0) (ps := [vI (sx V (i + 2)), vI (sx V (i + 1))]) (r := []) (as := [vR 0, vI (sx V (i + 1)), vI (sx V (i + 2))]) (cs' := cs + 0) (sl' := sl + 0) rfl rfl rfl rfl rfl rfl (kl_0 _) (c_door (d := 11 - 1) (q := 406 - (3 + 19)) (by decide) (by decide) i_I (a := (sx V (i + 1))) (w := (sx V (i + 2))) (show (-2147483648) ≤ (sx V (i + 1)) ∧ (sx V (i + 1)) ≤ 2147483647 by omega) (show (-2147483648) ≤ (sx V (i + 2)) ∧ (sx V (i + 2)) ≤ 2147483647 by omega)) (by decide) (show 3 + 19 ≤ 406 by decide) (Nat.le_trans (show cs + 0 ≤ 600000 by omega) (Nat.le_of_eq lw_mc.symm)) (Nat.le_trans (show sl + 0 ≤ 7302250 by omega) (Nat.le_of_eq lw_ms.symm)) rfl rfl rfl ?_
  rintro z3 m4 ⟨rfl, p5, p6, p7⟩
  refine g_pop rfl rfl ?_
  refine g_aload_n (n := 2) rfl rfl ?_
  refine g_aload_n (n := 0) rfl rfl ?_
  refine g_iload_n (n := 3) rfl rfl ?_
  refine g_iconst rfl ?_
  refine g_iadd rfl ?_
  refine g_xld (by omega) (by omega) hL (show decode cL_law 299 = .ok (.iaload, 1) by decide +kernel) ?_
  have h8 := sx_rng V (i + 1)
  refine g_aload_n (n := 0) rfl rfl ?_
  refine g_iload_n (n := 3) rfl rfl ?_
  refine g_iconst rfl ?_
  refine g_iadd rfl ?_
  refine g_xld (by omega) (by omega) hL (show decode cL_law 304 = .ok (.iaload, 1) by decide +kernel) ?_
  have h9 := sx_rng V (i + 2)
  refine c_vI (i := 61) (ps := [vI (sx V (i + 2)), vI (sx V (i + 1))]) (r := []) (as := [vR 61, vI (sx V (i + 1)), vI (sx V (i + 2))]) (cs' := cs + 0 + 0) (sl' := sl + 0 + 0) rfl rfl rfl rfl rfl rfl (kl_61 _) (d_door (d := 11 - 1) (q := 406 - (3 + 19)) (by decide) (by decide) i_I (a := (sx V (i + 1))) (w := (sx V (i + 2))) (show (-2147483648) ≤ (sx V (i + 1)) ∧ (sx V (i + 1)) ≤ 2147483647 by omega) (show (-2147483648) ≤ (sx V (i + 2)) ∧ (sx V (i + 2)) ≤ 2147483647 by omega)) (by decide) (show 3 + 19 ≤ 406 by decide) (Nat.le_trans (show cs + 0 + 0 ≤ 600000 by omega) (Nat.le_of_eq lw_mc.symm)) (Nat.le_trans (show sl + 0 + 0 ≤ 7302250 by omega) (Nat.le_of_eq lw_ms.symm)) rfl rfl rfl ?_
  rintro z10 m11 ⟨rfl, p12, p13, p14⟩
  refine g_pop rfl rfl ?_
  refine g_goto rfl ?_
  have r2n := r2
  have hYn := rY
  have hHn := rH
  have hVn := rV
  have hrl : rl m := ⟨by omega, r2n, by omega, by omega, by omega, by omega, by omega, hYn, hHn, hVn⟩
  have hb2 : sl + 0 + 0 ≤ 267897 + pp (k + 1) ∨ (m.2.2.1 0 ≠ vE 0 ∧ sl + 0 + 0 ≤ 267897 + pp (k + 1 + 1)) := by
    rcases hbu.2 with h | ⟨h1, h2⟩
    · left; omega
    · right; refine ⟨?_, by omega⟩
      exact h1
  exact K m (cs + 0 + 0) (sl + 0 + 0) ⟨i_I, i_W, i_P, i_4, i_D, i_K, hrl⟩ ⟨by omega, hb2⟩
theorem w_6 {V : cg_V} (hL : V.2.2.2.1 ≤ 256) {m : kM} {i : Int} {cs sl k : Nat} (hiv : iv m) (hbu : bu cs sl k m) (hk : k ≤ 63) (hi : 0 ≤ i ∧ i + 4 ≤ ((V.2.2.2.1 : Nat) : Int)) (K : ∀ (m' : kM) (cs' sl' : Nat), iv m' → bu cs' sl' (k + 1) m' → cg_G V mL_law 11 406 (fun r => ∃ w9, r = (some (vI 1), w9)) 756 [(3, vI i), (2, vR 61), (1, vR 0), (0, vE 1)] [] (kl m') cs' sl') : cg_G V mL_law 11 406 (fun r => ∃ w9, r = (some (vI 1), w9)) 312 [(3, vI i), (2, vR 61), (1, vR 0), (0, vE 1)] [] (kl m) cs sl := by
  obtain ⟨i_I, i_W, i_P, i_4, i_D, i_K, r3, r2, r7, r8, r10, r22, r0, rY, rH, rV⟩ := hiv
  have b1 := hbu.1
  have pp1 := pp_s k
  have pp2 := pp_s (k + 1)
  have pp3 := pp_le (show k + 1 ≤ 64 by omega)
  have b2 : sl ≤ 267897 + pp (k + 1) := by rcases hbu.2 with h | h <;> omega
  refine g_aload_n (n := 1) rfl rfl ?_
  refine g_aload_n (n := 0) rfl rfl ?_
  refine g_iload_n (n := 3) rfl rfl ?_
  refine g_iconst rfl ?_
  refine g_iadd rfl ?_
  refine g_xld (by omega) (by omega) hL (show decode cL_law 317 = .ok (.iaload, 1) by decide +kernel) ?_
  have h1 := sx_rng V (i + 1)
  refine g_aload_n (n := 0) rfl rfl ?_
  refine g_iload_n (n := 3) rfl rfl ?_
  refine g_iconst rfl ?_
  refine g_iadd rfl ?_
  refine g_xld (by omega) (by omega) hL (show decode cL_law 322 = .ok (.iaload, 1) by decide +kernel) ?_
  have h2 := sx_rng V (i + 2)
  refine c_vI (i := 0) (ps := [vI (sx V (i + 2)), vI (sx V (i + 1))]) (r := []) (as := [vR 0, vI (sx V (i + 1)), vI (sx V (i + 2))]) (cs' := cs + 0) (sl' := sl + 0) rfl rfl rfl rfl rfl rfl (kl_0 _) (c_as (d := 11 - 1) (q := 406 - (5 + 19)) (by decide) (by decide) i_I (a := (sx V (i + 1))) (w := (sx V (i + 2))) (show (-2147483648) ≤ (sx V (i + 1)) ∧ (sx V (i + 1)) ≤ 2147483647 by omega) (show (-2147483648) ≤ (sx V (i + 2)) ∧ (sx V (i + 2)) ≤ 2147483647 by omega)) (by decide) (show 5 + 19 ≤ 406 by decide) (Nat.le_trans (show cs + 0 ≤ 600000 by omega) (Nat.le_of_eq lw_mc.symm)) (Nat.le_trans (show sl + 0 ≤ 7302250 by omega) (Nat.le_of_eq lw_ms.symm)) rfl rfl rfl ?_
  rintro z3 m4 ⟨rfl, p5, p6, p7⟩
  refine g_pop rfl rfl ?_
  refine g_aload_n (n := 2) rfl rfl ?_
  refine g_aload_n (n := 0) rfl rfl ?_
  refine g_iload_n (n := 3) rfl rfl ?_
  refine g_iconst rfl ?_
  refine g_iadd rfl ?_
  refine g_xld (by omega) (by omega) hL (show decode cL_law 332 = .ok (.iaload, 1) by decide +kernel) ?_
  have h8 := sx_rng V (i + 1)
  refine g_aload_n (n := 0) rfl rfl ?_
  refine g_iload_n (n := 3) rfl rfl ?_
  refine g_iconst rfl ?_
  refine g_iadd rfl ?_
  refine g_xld (by omega) (by omega) hL (show decode cL_law 337 = .ok (.iaload, 1) by decide +kernel) ?_
  have h9 := sx_rng V (i + 2)
  refine c_vI (i := 61) (ps := [vI (sx V (i + 2)), vI (sx V (i + 1))]) (r := []) (as := [vR 61, vI (sx V (i + 1)), vI (sx V (i + 2))]) (cs' := cs + 0 + 0) (sl' := sl + 0 + 0) rfl rfl rfl rfl rfl rfl (kl_61 _) (d_as (d := 11 - 1) (q := 406 - (6 + 19)) (by decide) (by decide) i_I (a := (sx V (i + 1))) (w := (sx V (i + 2))) (show (-2147483648) ≤ (sx V (i + 1)) ∧ (sx V (i + 1)) ≤ 2147483647 by omega) (show (-2147483648) ≤ (sx V (i + 2)) ∧ (sx V (i + 2)) ≤ 2147483647 by omega)) (by decide) (show 6 + 19 ≤ 406 by decide) (Nat.le_trans (show cs + 0 + 0 ≤ 600000 by omega) (Nat.le_of_eq lw_mc.symm)) (Nat.le_trans (show sl + 0 + 0 ≤ 7302250 by omega) (Nat.le_of_eq lw_ms.symm)) rfl rfl rfl ?_
  rintro z10 m11 ⟨rfl, p12, p13, p14⟩
  refine g_pop rfl rfl ?_
  refine g_goto rfl ?_
  have r2n := r2
  have hYn := rY
  have hHn := rH
  have hVn := rV
  have hrl : rl m := ⟨by omega, r2n, by omega, by omega, by omega, by omega, by omega, hYn, hHn, hVn⟩
  have hb2 : sl + 0 + 0 ≤ 267897 + pp (k + 1) ∨ (m.2.2.1 0 ≠ vE 0 ∧ sl + 0 + 0 ≤ 267897 + pp (k + 1 + 1)) := by
    rcases hbu.2 with h | ⟨h1, h2⟩
    · left; omega
    · right; refine ⟨?_, by omega⟩
      exact h1
  exact K m (cs + 0 + 0) (sl + 0 + 0) ⟨i_I, i_W, i_P, i_4, i_D, i_K, hrl⟩ ⟨by omega, hb2⟩
theorem w_7 {V : cg_V} (hL : V.2.2.2.1 ≤ 256) {m : kM} {i : Int} {cs sl k : Nat} (hiv : iv m) (hbu : bu cs sl k m) (hk : k ≤ 63) (hi : 0 ≤ i ∧ i + 4 ≤ ((V.2.2.2.1 : Nat) : Int)) (K : ∀ (m' : kM) (cs' sl' : Nat), iv m' → bu cs' sl' (k + 1) m' → cg_G V mL_law 11 406 (fun r => ∃ w9, r = (some (vI 1), w9)) 756 [(3, vI i), (2, vR 61), (1, vR 0), (0, vE 1)] [] (kl m') cs' sl') : cg_G V mL_law 11 406 (fun r => ∃ w9, r = (some (vI 1), w9)) 345 [(3, vI i), (2, vR 61), (1, vR 0), (0, vE 1)] [] (kl m) cs sl := by
  obtain ⟨i_I, i_W, i_P, i_4, i_D, i_K, r3, r2, r7, r8, r10, r22, r0, rY, rH, rV⟩ := hiv
  have b1 := hbu.1
  have pp1 := pp_s k
  have pp2 := pp_s (k + 1)
  have pp3 := pp_le (show k + 1 ≤ 64 by omega)
  have b2 : sl ≤ 267897 + pp (k + 1) := by rcases hbu.2 with h | h <;> omega
  refine g_aload_n (n := 1) rfl rfl ?_
  refine g_aload_n (n := 0) rfl rfl ?_
  refine g_iload_n (n := 3) rfl rfl ?_
  refine g_iconst rfl ?_
  refine g_iadd rfl ?_
  refine g_xld (by omega) (by omega) hL (show decode cL_law 350 = .ok (.iaload, 1) by decide +kernel) ?_
  have h1 := sx_rng V (i + 1)
  refine c_vI (i := 0) (ps := [vI (sx V (i + 1))]) (r := []) (as := [vR 0, vI (sx V (i + 1))]) (cs' := cs + 0) (sl' := sl + 0) rfl rfl rfl rfl rfl rfl (kl_0 _) (c_act (d := 11 - 1) (q := 406 - (3 + 19)) (by decide) (by decide) i_I (c := (sx V (i + 1))) (show (-2147483648) ≤ (sx V (i + 1)) ∧ (sx V (i + 1)) ≤ 2147483647 by omega) i_W i_P) (by decide) (show 3 + 19 ≤ 406 by decide) (Nat.le_trans (show cs + 0 ≤ 600000 by omega) (Nat.le_of_eq lw_mc.symm)) (Nat.le_trans (show sl + 0 ≤ 7302250 by omega) (Nat.le_of_eq lw_ms.symm)) rfl rfl rfl ?_
  rintro z2 m3 ⟨hm8, hf9, p4, p5, p6, p7⟩
  have h10 : m3.1 0 = m.1 0 := hf9.1 0 rfl
  have h11 : m3.1 3 = m.1 3 := hf9.1 3 rfl
  have h12 : m3.1 7 = m.1 7 := hf9.1 7 rfl
  have h13 : m3.1 8 = m.1 8 := hf9.1 8 rfl
  have h14 : m3.1 10 = m.1 10 := hf9.1 10 rfl
  have h15 : m3.1 12 = m.1 12 := hf9.1 12 rfl
  have h16 : m3.1 22 = m.1 22 := hf9.1 22 rfl
  have h17 : m3.1 23 = m.1 23 := hf9.1 23 rfl
  have h18 : m3.1 25 = m.1 25 := hf9.1 25 rfl
  have h19 : m3.1 26 = m.1 26 := hf9.1 26 rfl
  have h20 : m3.1 28 = m.1 28 := hf9.1 28 rfl
  have h21 : m3.1 30 = m.1 30 := hf9.1 30 rfl
  have h22 : m3.1 38 = m.1 38 := hf9.1 38 rfl
  have h23 : m3.1 39 = m.1 39 := hf9.1 39 rfl
  have y2_m3 : m3.2.1 2 = m.2.1 2 := hf9.2.1 2 rfl
  have y64_m3 : m3.2.1 64 = m.2.1 64 := hf9.2.1 64 rfl
  have y4_m3 : m3.2.1 4 = m.2.1 4 := hf9.2.1 4 rfl
  have y5_m3 : m3.2.1 5 = m.2.1 5 := hf9.2.1 5 rfl
  have y6_m3 : m3.2.1 6 = m.2.1 6 := hf9.2.1 6 rfl
  have y7_m3 : m3.2.1 7 = m.2.1 7 := hf9.2.1 7 rfl
  have y66_m3 : m3.2.1 66 = m.2.1 66 := hf9.2.1 66 rfl
  have y32_m3 : m3.2.1 32 = m.2.1 32 := hf9.2.1 32 rfl
  have y33_m3 : m3.2.1 33 = m.2.1 33 := hf9.2.1 33 rfl
  have y73_m3 : m3.2.1 73 = m.2.1 73 := hf9.2.1 73 rfl
  have t24 : k4 m3 := k4_of (hf9.1 28 rfl) i_4
  have t25 : kD m3 := kD_of (hf9.1 26 rfl) (hf9.2.1 66 rfl) i_D
  have t26 : kK m3 := kK_same (hf9.1 28 rfl) (hf9.2.1 62 rfl) (hf9.2.1 63 rfl) i_K
  refine g_pop rfl rfl ?_
  refine g_aload_n (n := 2) rfl rfl ?_
  refine g_aload_n (n := 0) rfl rfl ?_
  refine g_iload_n (n := 3) rfl rfl ?_
  refine g_iconst rfl ?_
  refine g_iadd rfl ?_
  refine g_xld (by omega) (by omega) hL (show decode cL_law 360 = .ok (.iaload, 1) by decide +kernel) ?_
  have h27 := sx_rng V (i + 1)
  refine c_vI (i := 61) (ps := [vI (sx V (i + 1))]) (r := []) (as := [vR 61, vI (sx V (i + 1))]) (cs' := cs + 0 + 0) (sl' := sl + 0 + 0) rfl rfl rfl rfl rfl rfl (kl_61 _) (d_act (d := 11 - 1) (q := 406 - (2 + 19)) (by decide) (by decide) hm8 (c := (sx V (i + 1))) (show (-2147483648) ≤ (sx V (i + 1)) ∧ (sx V (i + 1)) ≤ 2147483647 by omega) t24 t25 t26) (by decide) (show 2 + 19 ≤ 406 by decide) (Nat.le_trans (show cs + 0 + 0 ≤ 600000 by omega) (Nat.le_of_eq lw_mc.symm)) (Nat.le_trans (show sl + 0 + 0 ≤ 7302250 by omega) (Nat.le_of_eq lw_ms.symm)) rfl rfl rfl ?_
  rintro z28 m29 ⟨hm35, hf36, p30, p31, p32, p33, p34⟩
  have h37 : m29.1 0 = m3.1 0 := hf36.1 0 rfl
  have h38 : m29.1 3 = m3.1 3 := hf36.1 3 rfl
  have h39 : m29.1 7 = m3.1 7 := hf36.1 7 rfl
  have h40 : m29.1 8 = m3.1 8 := hf36.1 8 rfl
  have h41 : m29.1 10 = m3.1 10 := hf36.1 10 rfl
  have h42 : m29.1 12 = m3.1 12 := hf36.1 12 rfl
  have h43 : m29.1 22 = m3.1 22 := hf36.1 22 rfl
  have h44 : m29.1 23 = m3.1 23 := hf36.1 23 rfl
  have h45 : m29.1 25 = m3.1 25 := hf36.1 25 rfl
  have h46 : m29.1 26 = m3.1 26 := hf36.1 26 rfl
  have h47 : m29.1 28 = m3.1 28 := hf36.1 28 rfl
  have h48 : m29.1 30 = m3.1 30 := hf36.1 30 rfl
  have h49 : m29.1 38 = m3.1 38 := hf36.1 38 rfl
  have h50 : m29.1 39 = m3.1 39 := hf36.1 39 rfl
  have y2_m29 : m29.2.1 2 = m3.2.1 2 := hf36.2.1 2 rfl
  have y64_m29 : m29.2.1 64 = m3.2.1 64 := hf36.2.1 64 rfl
  have y4_m29 : m29.2.1 4 = m3.2.1 4 := hf36.2.1 4 rfl
  have y5_m29 : m29.2.1 5 = m3.2.1 5 := hf36.2.1 5 rfl
  have y6_m29 : m29.2.1 6 = m3.2.1 6 := hf36.2.1 6 rfl
  have y7_m29 : m29.2.1 7 = m3.2.1 7 := hf36.2.1 7 rfl
  have y66_m29 : m29.2.1 66 = m3.2.1 66 := hf36.2.1 66 rfl
  have y32_m29 : m29.2.1 32 = m3.2.1 32 := hf36.2.1 32 rfl
  have y33_m29 : m29.2.1 33 = m3.2.1 33 := hf36.2.1 33 rfl
  have y73_m29 : m29.2.1 73 = m3.2.1 73 := hf36.2.1 73 rfl
  have t51 : kW m29 := kW_of (hf36.2.1 18 rfl) p6
  have t52 : kP m29 := kP_fr hf36 rfl rfl p7
  have R_m29 : m29.2.2.1 0 = m3.2.2.1 0 := by rw [hf36.2.2]
  refine g_pop rfl rfl ?_
  refine g_goto rfl ?_
  have r2n : m29.2.1 2 = m29.2.1 64 := by rw [y2_m29, y2_m3, y64_m29, y64_m3, r2]
  have hYn := DY_mv (show m29.1 26 = m.1 26 by omega) ((y66_m29).trans y66_m3) (show m29.1 30 = m.1 30 by omega) ((y4_m29).trans y4_m3) ((y5_m29).trans y5_m3) ((y6_m29).trans y6_m3) ((y7_m29).trans y7_m3) (show m29.1 12 = m.1 12 by omega) rY
  have hHn := HY_mv (show m29.1 22 = m.1 22 by omega) ((y32_m29).trans y32_m3) ((y33_m29).trans y33_m3) ((y73_m29).trans y73_m3) rH
  have hVn := DV_mv (show m29.1 7 = m.1 7 by omega) (show m29.1 8 = m.1 8 by omega) ((y4_m29).trans y4_m3) ((y5_m29).trans y5_m3) rV
  have hrl : rl m29 := ⟨by omega, r2n, by omega, by omega, by omega, by omega, by omega, hYn, hHn, hVn⟩
  exact K m29 (cs + 0 + 0) (sl + 0 + 0) ⟨hm35, t51, t52, p32, p33, p34, hrl⟩ ⟨by omega, Or.inl (by omega)⟩
theorem w_8 {V : cg_V} (hL : V.2.2.2.1 ≤ 256) {m : kM} {i : Int} {cs sl k : Nat} (hiv : iv m) (hbu : bu cs sl k m) (hk : k ≤ 63) (hi : 0 ≤ i ∧ i + 4 ≤ ((V.2.2.2.1 : Nat) : Int)) (K : ∀ (m' : kM) (cs' sl' : Nat), iv m' → bu cs' sl' (k + 1) m' → cg_G V mL_law 11 406 (fun r => ∃ w9, r = (some (vI 1), w9)) 756 [(3, vI i), (2, vR 61), (1, vR 0), (0, vE 1)] [] (kl m') cs' sl') : cg_G V mL_law 11 406 (fun r => ∃ w9, r = (some (vI 1), w9)) 368 [(3, vI i), (2, vR 61), (1, vR 0), (0, vE 1)] [] (kl m) cs sl := by
  obtain ⟨i_I, i_W, i_P, i_4, i_D, i_K, r3, r2, r7, r8, r10, r22, r0, rY, rH, rV⟩ := hiv
  have b1 := hbu.1
  have pp1 := pp_s k
  have pp2 := pp_s (k + 1)
  have pp3 := pp_le (show k + 1 ≤ 64 by omega)
  have b2 : sl ≤ 267897 + pp (k + 1) := by rcases hbu.2 with h | h <;> omega
  refine g_aload_n (n := 1) rfl rfl ?_
  refine g_aload_n (n := 0) rfl rfl ?_
  refine g_iload_n (n := 3) rfl rfl ?_
  refine g_iconst rfl ?_
  refine g_iadd rfl ?_
  refine g_xld (by omega) (by omega) hL (show decode cL_law 373 = .ok (.iaload, 1) by decide +kernel) ?_
  have h1 := sx_rng V (i + 1)
  refine g_aload_n (n := 0) rfl rfl ?_
  refine g_iload_n (n := 3) rfl rfl ?_
  refine g_iconst rfl ?_
  refine g_iadd rfl ?_
  refine g_xld (by omega) (by omega) hL (show decode cL_law 378 = .ok (.iaload, 1) by decide +kernel) ?_
  have h2 := sx_rng V (i + 2)
  refine c_vI (i := 0) (ps := [vI (sx V (i + 2)), vI (sx V (i + 1))]) (r := []) (as := [vR 0, vI (sx V (i + 1)), vI (sx V (i + 2))]) (cs' := cs + 0) (sl' := sl + 0) rfl rfl rfl rfl rfl rfl (kl_0 _) (c_guard (d := 11 - 1) (q := 406 - (3 + 19)) (by decide) (by decide) i_I (g := (sx V (i + 1))) (w := (sx V (i + 2))) (show (-2147483648) ≤ (sx V (i + 1)) ∧ (sx V (i + 1)) ≤ 2147483647 by omega) (show (-2147483648) ≤ (sx V (i + 2)) ∧ (sx V (i + 2)) ≤ 2147483647 by omega)) (by decide) (show 3 + 19 ≤ 406 by decide) (Nat.le_trans (show cs + 0 ≤ 600000 by omega) (Nat.le_of_eq lw_mc.symm)) (Nat.le_trans (show sl + 0 ≤ 7302250 by omega) (Nat.le_of_eq lw_ms.symm)) rfl rfl rfl ?_
  rintro z3 m4 ⟨rfl, p5, p6⟩
  refine g_pop rfl rfl ?_
  refine g_aload_n (n := 2) rfl rfl ?_
  refine g_aload_n (n := 0) rfl rfl ?_
  refine g_iload_n (n := 3) rfl rfl ?_
  refine g_iconst rfl ?_
  refine g_iadd rfl ?_
  refine g_xld (by omega) (by omega) hL (show decode cL_law 388 = .ok (.iaload, 1) by decide +kernel) ?_
  have h7 := sx_rng V (i + 1)
  refine g_aload_n (n := 0) rfl rfl ?_
  refine g_iload_n (n := 3) rfl rfl ?_
  refine g_iconst rfl ?_
  refine g_iadd rfl ?_
  refine g_xld (by omega) (by omega) hL (show decode cL_law 393 = .ok (.iaload, 1) by decide +kernel) ?_
  have h8 := sx_rng V (i + 2)
  refine c_vI (i := 61) (ps := [vI (sx V (i + 2)), vI (sx V (i + 1))]) (r := []) (as := [vR 61, vI (sx V (i + 1)), vI (sx V (i + 2))]) (cs' := cs + 0 + 0) (sl' := sl + 0 + 0) rfl rfl rfl rfl rfl rfl (kl_61 _) (d_guard (d := 11 - 1) (q := 406 - (5 + 19)) (by decide) (by decide) i_I (g := (sx V (i + 1))) (w := (sx V (i + 2))) (show (-2147483648) ≤ (sx V (i + 1)) ∧ (sx V (i + 1)) ≤ 2147483647 by omega) (show (-2147483648) ≤ (sx V (i + 2)) ∧ (sx V (i + 2)) ≤ 2147483647 by omega) i_4 i_D i_K) (by decide) (show 5 + 19 ≤ 406 by decide) (Nat.le_trans (show cs + 0 + 0 ≤ 600000 by omega) (Nat.le_of_eq lw_mc.symm)) (Nat.le_trans (show sl + 0 + 0 ≤ 7302250 by omega) (Nat.le_of_eq lw_ms.symm)) rfl rfl rfl ?_
  rintro z9 m10 ⟨hm16, hf17, p11, p12, p13, p14, p15⟩
  have h18 : m10.1 0 = m.1 0 := hf17.1 0 rfl
  have h19 : m10.1 3 = m.1 3 := hf17.1 3 rfl
  have h20 : m10.1 7 = m.1 7 := hf17.1 7 rfl
  have h21 : m10.1 8 = m.1 8 := hf17.1 8 rfl
  have h22 : m10.1 10 = m.1 10 := hf17.1 10 rfl
  have h23 : m10.1 12 = m.1 12 := hf17.1 12 rfl
  have h24 : m10.1 22 = m.1 22 := hf17.1 22 rfl
  have h25 : m10.1 23 = m.1 23 := hf17.1 23 rfl
  have h26 : m10.1 25 = m.1 25 := hf17.1 25 rfl
  have h27 : m10.1 26 = m.1 26 := hf17.1 26 rfl
  have h28 : m10.1 28 = m.1 28 := hf17.1 28 rfl
  have h29 : m10.1 30 = m.1 30 := hf17.1 30 rfl
  have h30 : m10.1 38 = m.1 38 := hf17.1 38 rfl
  have h31 : m10.1 39 = m.1 39 := hf17.1 39 rfl
  have y2_m10 : m10.2.1 2 = m.2.1 2 := hf17.2.1 2 rfl
  have y64_m10 : m10.2.1 64 = m.2.1 64 := hf17.2.1 64 rfl
  have y4_m10 : m10.2.1 4 = m.2.1 4 := hf17.2.1 4 rfl
  have y5_m10 : m10.2.1 5 = m.2.1 5 := hf17.2.1 5 rfl
  have y6_m10 : m10.2.1 6 = m.2.1 6 := hf17.2.1 6 rfl
  have y7_m10 : m10.2.1 7 = m.2.1 7 := hf17.2.1 7 rfl
  have y66_m10 : m10.2.1 66 = m.2.1 66 := hf17.2.1 66 rfl
  have y32_m10 : m10.2.1 32 = m.2.1 32 := hf17.2.1 32 rfl
  have y33_m10 : m10.2.1 33 = m.2.1 33 := hf17.2.1 33 rfl
  have y73_m10 : m10.2.1 73 = m.2.1 73 := hf17.2.1 73 rfl
  have t32 : kW m10 := kW_of (hf17.2.1 18 rfl) i_W
  have t33 : kP m10 := kP_fr hf17 rfl rfl i_P
  have R_m10 : m10.2.2.1 0 = m.2.2.1 0 := by rw [hf17.2.2]
  refine g_pop rfl rfl ?_
  refine g_goto rfl ?_
  have r2n : m10.2.1 2 = m10.2.1 64 := by rw [y2_m10, y64_m10, r2]
  have hYn := DY_mv (show m10.1 26 = m.1 26 by omega) y66_m10 (show m10.1 30 = m.1 30 by omega) y4_m10 y5_m10 y6_m10 y7_m10 (show m10.1 12 = m.1 12 by omega) rY
  have hHn := HY_mv (show m10.1 22 = m.1 22 by omega) y32_m10 y33_m10 y73_m10 rH
  have hVn := DV_mv (show m10.1 7 = m.1 7 by omega) (show m10.1 8 = m.1 8 by omega) y4_m10 y5_m10 rV
  have hrl : rl m10 := ⟨by omega, r2n, by omega, by omega, by omega, by omega, by omega, hYn, hHn, hVn⟩
  have hb2 : sl + 0 + 0 ≤ 267897 + pp (k + 1) ∨ (m10.2.2.1 0 ≠ vE 0 ∧ sl + 0 + 0 ≤ 267897 + pp (k + 1 + 1)) := by
    rcases hbu.2 with h | ⟨h1, h2⟩
    · left; omega
    · right; refine ⟨?_, by omega⟩
      have u34 : m10.2.2.1 0 ≠ vE 0 := by rw [R_m10]; exact h1
      exact u34
  exact K m10 (cs + 0 + 0) (sl + 0 + 0) ⟨hm16, t32, t33, p13, p14, p15, hrl⟩ ⟨by omega, hb2⟩
theorem w_9 {V : cg_V} (hL : V.2.2.2.1 ≤ 256) {m : kM} {i : Int} {cs sl k : Nat} (hiv : iv m) (hbu : bu cs sl k m) (hk : k ≤ 63) (hi : 0 ≤ i ∧ i + 4 ≤ ((V.2.2.2.1 : Nat) : Int)) (K : ∀ (m' : kM) (cs' sl' : Nat), iv m' → bu cs' sl' (k + 1) m' → cg_G V mL_law 11 406 (fun r => ∃ w9, r = (some (vI 1), w9)) 756 [(3, vI i), (2, vR 61), (1, vR 0), (0, vE 1)] [] (kl m') cs' sl') : cg_G V mL_law 11 406 (fun r => ∃ w9, r = (some (vI 1), w9)) 401 [(3, vI i), (2, vR 61), (1, vR 0), (0, vE 1)] [] (kl m) cs sl := by
  obtain ⟨i_I, i_W, i_P, i_4, i_D, i_K, r3, r2, r7, r8, r10, r22, r0, rY, rH, rV⟩ := hiv
  have b1 := hbu.1
  have pp1 := pp_s k
  have pp2 := pp_s (k + 1)
  have pp3 := pp_le (show k + 1 ≤ 64 by omega)
  have b2 : sl ≤ 267897 + pp (k + 1) := by rcases hbu.2 with h | h <;> omega
  refine g_aload_n (n := 1) rfl rfl ?_
  refine g_aload_n (n := 0) rfl rfl ?_
  refine g_iload_n (n := 3) rfl rfl ?_
  refine g_iconst rfl ?_
  refine g_iadd rfl ?_
  refine g_xld (by omega) (by omega) hL (show decode cL_law 406 = .ok (.iaload, 1) by decide +kernel) ?_
  have h1 := sx_rng V (i + 1)
  refine c_vI (i := 0) (ps := [vI (sx V (i + 1))]) (r := []) (as := [vR 0, vI (sx V (i + 1))]) (cs' := cs + 2) (sl' := sl + 64514) rfl rfl rfl rfl rfl rfl (kl_0 _) (c_fewest (d := 11 - 1) (q := 406 - (2 + 19)) (by decide) (by decide) i_I (i := (sx V (i + 1))) (show (-2147483648) ≤ (sx V (i + 1)) ∧ (sx V (i + 1)) ≤ 2147483647 by omega) i_W i_P) (by decide) (show 2 + 19 ≤ 406 by decide) (Nat.le_trans (show cs + 2 ≤ 600000 by omega) (Nat.le_of_eq lw_mc.symm)) (Nat.le_trans (show sl + 64514 ≤ 7302250 by omega) (Nat.le_of_eq lw_ms.symm)) rfl rfl rfl ?_
  rintro z2 m3 ⟨hm9, hf10, p4, p5, p6, p7, p8⟩
  have h11 : m3.1 0 = m.1 0 := hf10.1 0 rfl
  have h12 : m3.1 3 = m.1 3 := hf10.1 3 rfl
  have h13 : m3.1 7 = m.1 7 := hf10.1 7 rfl
  have h14 : m3.1 8 = m.1 8 := hf10.1 8 rfl
  have h15 : m3.1 10 = m.1 10 := hf10.1 10 rfl
  have h16 : m3.1 12 = m.1 12 := hf10.1 12 rfl
  have h17 : m3.1 22 = m.1 22 := hf10.1 22 rfl
  have h18 : m3.1 23 = m.1 23 := hf10.1 23 rfl
  have h19 : m3.1 25 = m.1 25 := hf10.1 25 rfl
  have h20 : m3.1 26 = m.1 26 := hf10.1 26 rfl
  have h21 : m3.1 28 = m.1 28 := hf10.1 28 rfl
  have h22 : m3.1 30 = m.1 30 := hf10.1 30 rfl
  have h23 : m3.1 38 = m.1 38 := hf10.1 38 rfl
  have h24 : m3.1 39 = m.1 39 := hf10.1 39 rfl
  have y2_m3 : m3.2.1 2 = m.2.1 2 := hf10.2.1 2 rfl
  have y64_m3 : m3.2.1 64 = m.2.1 64 := hf10.2.1 64 rfl
  have y4_m3 : m3.2.1 4 = m.2.1 4 := hf10.2.1 4 rfl
  have y5_m3 : m3.2.1 5 = m.2.1 5 := hf10.2.1 5 rfl
  have y6_m3 : m3.2.1 6 = m.2.1 6 := hf10.2.1 6 rfl
  have y7_m3 : m3.2.1 7 = m.2.1 7 := hf10.2.1 7 rfl
  have y66_m3 : m3.2.1 66 = m.2.1 66 := hf10.2.1 66 rfl
  have y32_m3 : m3.2.1 32 = m.2.1 32 := hf10.2.1 32 rfl
  have y33_m3 : m3.2.1 33 = m.2.1 33 := hf10.2.1 33 rfl
  have y73_m3 : m3.2.1 73 = m.2.1 73 := hf10.2.1 73 rfl
  have t25 : k4 m3 := k4_of (hf10.1 28 rfl) i_4
  have t26 : kD m3 := kD_of (hf10.1 26 rfl) (hf10.2.1 66 rfl) i_D
  have t27 : kK m3 := kK_same (hf10.1 28 rfl) (hf10.2.1 62 rfl) (hf10.2.1 63 rfl) i_K
  refine g_pop rfl rfl ?_
  refine g_aload_n (n := 2) rfl rfl ?_
  refine g_aload_n (n := 0) rfl rfl ?_
  refine g_iload_n (n := 3) rfl rfl ?_
  refine g_iconst rfl ?_
  refine g_iadd rfl ?_
  refine g_xld (by omega) (by omega) hL (show decode cL_law 416 = .ok (.iaload, 1) by decide +kernel) ?_
  have h28 := sx_rng V (i + 1)
  refine c_vI (i := 61) (ps := [vI (sx V (i + 1))]) (r := []) (as := [vR 61, vI (sx V (i + 1))]) (cs' := cs + 2 + 0) (sl' := sl + 64514 + 0) rfl rfl rfl rfl rfl rfl (kl_61 _) (d_fewest (d := 11 - 1) (q := 406 - (2 + 19)) (by decide) (by decide) hm9 (i := (sx V (i + 1))) (show (-2147483648) ≤ (sx V (i + 1)) ∧ (sx V (i + 1)) ≤ 2147483647 by omega) t25 t26 t27) (by decide) (show 2 + 19 ≤ 406 by decide) (Nat.le_trans (show cs + 2 + 0 ≤ 600000 by omega) (Nat.le_of_eq lw_mc.symm)) (Nat.le_trans (show sl + 64514 + 0 ≤ 7302250 by omega) (Nat.le_of_eq lw_ms.symm)) rfl rfl rfl ?_
  rintro z29 m30 ⟨hm36, hf37, p31, p32, p33, p34, p35⟩
  have h38 : m30.1 0 = m3.1 0 := hf37.1 0 rfl
  have h39 : m30.1 3 = m3.1 3 := hf37.1 3 rfl
  have h40 : m30.1 7 = m3.1 7 := hf37.1 7 rfl
  have h41 : m30.1 8 = m3.1 8 := hf37.1 8 rfl
  have h42 : m30.1 10 = m3.1 10 := hf37.1 10 rfl
  have h43 : m30.1 12 = m3.1 12 := hf37.1 12 rfl
  have h44 : m30.1 22 = m3.1 22 := hf37.1 22 rfl
  have h45 : m30.1 23 = m3.1 23 := hf37.1 23 rfl
  have h46 : m30.1 25 = m3.1 25 := hf37.1 25 rfl
  have h47 : m30.1 26 = m3.1 26 := hf37.1 26 rfl
  have h48 : m30.1 28 = m3.1 28 := hf37.1 28 rfl
  have h49 : m30.1 30 = m3.1 30 := hf37.1 30 rfl
  have h50 : m30.1 38 = m3.1 38 := hf37.1 38 rfl
  have h51 : m30.1 39 = m3.1 39 := hf37.1 39 rfl
  have y2_m30 : m30.2.1 2 = m3.2.1 2 := hf37.2.1 2 rfl
  have y64_m30 : m30.2.1 64 = m3.2.1 64 := hf37.2.1 64 rfl
  have y4_m30 : m30.2.1 4 = m3.2.1 4 := hf37.2.1 4 rfl
  have y5_m30 : m30.2.1 5 = m3.2.1 5 := hf37.2.1 5 rfl
  have y6_m30 : m30.2.1 6 = m3.2.1 6 := hf37.2.1 6 rfl
  have y7_m30 : m30.2.1 7 = m3.2.1 7 := hf37.2.1 7 rfl
  have y66_m30 : m30.2.1 66 = m3.2.1 66 := hf37.2.1 66 rfl
  have y32_m30 : m30.2.1 32 = m3.2.1 32 := hf37.2.1 32 rfl
  have y33_m30 : m30.2.1 33 = m3.2.1 33 := hf37.2.1 33 rfl
  have y73_m30 : m30.2.1 73 = m3.2.1 73 := hf37.2.1 73 rfl
  have t52 : kW m30 := kW_of (hf37.2.1 18 rfl) p6
  have t53 : kP m30 := kP_fr hf37 rfl rfl p7
  have R_m30 : m30.2.2.1 0 = m3.2.2.1 0 := by rw [hf37.2.2]
  refine g_pop rfl rfl ?_
  refine g_goto rfl ?_
  have r2n : m30.2.1 2 = m30.2.1 64 := by rw [y2_m30, y2_m3, y64_m30, y64_m3, r2]
  have hYn := DY_mv (show m30.1 26 = m.1 26 by omega) ((y66_m30).trans y66_m3) (show m30.1 30 = m.1 30 by omega) ((y4_m30).trans y4_m3) ((y5_m30).trans y5_m3) ((y6_m30).trans y6_m3) ((y7_m30).trans y7_m3) (show m30.1 12 = m.1 12 by omega) rY
  have hHn := HY_mv (show m30.1 22 = m.1 22 by omega) ((y32_m30).trans y32_m3) ((y33_m30).trans y33_m3) ((y73_m30).trans y73_m3) rH
  have hVn := DV_mv (show m30.1 7 = m.1 7 by omega) (show m30.1 8 = m.1 8 by omega) ((y4_m30).trans y4_m3) ((y5_m30).trans y5_m3) rV
  have hrl : rl m30 := ⟨by omega, r2n, by omega, by omega, by omega, by omega, by omega, hYn, hHn, hVn⟩
  have hb2 : sl + 64514 + 0 ≤ 267897 + pp (k + 1) ∨ (m30.2.2.1 0 ≠ vE 0 ∧ sl + 64514 + 0 ≤ 267897 + pp (k + 1 + 1)) := by
    rcases hbu.2 with h | ⟨h1, h2⟩
    · left; omega
    · right; refine ⟨?_, by omega⟩
      have u54 : m3.2.2.1 0 ≠ vE 0 := p8.elim (fun e => by rw [e]; exact h1) id
      have u55 : m30.2.2.1 0 ≠ vE 0 := by rw [R_m30]; exact u54
      exact u55
  exact K m30 (cs + 2 + 0) (sl + 64514 + 0) ⟨hm36, t52, t53, p33, p34, p35, hrl⟩ ⟨by omega, hb2⟩
theorem w_10 {V : cg_V} (hL : V.2.2.2.1 ≤ 256) {m : kM} {i : Int} {cs sl k : Nat} (hiv : iv m) (hbu : bu cs sl k m) (hk : k ≤ 63) (hi : 0 ≤ i ∧ i + 4 ≤ ((V.2.2.2.1 : Nat) : Int)) (K : ∀ (m' : kM) (cs' sl' : Nat), iv m' → bu cs' sl' (k + 1) m' → cg_G V mL_law 11 406 (fun r => ∃ w9, r = (some (vI 1), w9)) 756 [(3, vI i), (2, vR 61), (1, vR 0), (0, vE 1)] [] (kl m') cs' sl') : cg_G V mL_law 11 406 (fun r => ∃ w9, r = (some (vI 1), w9)) 424 [(3, vI i), (2, vR 61), (1, vR 0), (0, vE 1)] [] (kl m) cs sl := by
  obtain ⟨i_I, i_W, i_P, i_4, i_D, i_K, r3, r2, r7, r8, r10, r22, r0, rY, rH, rV⟩ := hiv
  have b1 := hbu.1
  have pp1 := pp_s k
  have pp2 := pp_s (k + 1)
  have pp3 := pp_le (show k + 1 ≤ 64 by omega)
  have b2 : sl ≤ 267897 + pp (k + 1) := by rcases hbu.2 with h | h <;> omega
  refine g_aload_n (n := 1) rfl rfl ?_
  refine g_aload_n (n := 0) rfl rfl ?_
  refine g_iload_n (n := 3) rfl rfl ?_
  refine g_iconst rfl ?_
  refine g_iadd rfl ?_
  refine g_xld (by omega) (by omega) hL (show decode cL_law 429 = .ok (.iaload, 1) by decide +kernel) ?_
  have h1 := sx_rng V (i + 1)
  refine c_vI (i := 0) (ps := [vI (sx V (i + 1))]) (r := []) (as := [vR 0, vI (sx V (i + 1))]) (cs' := cs + 2) (sl' := sl + 64514) rfl rfl rfl rfl rfl rfl (kl_0 _) (c_by (d := 11 - 1) (q := 406 - (3 + 19)) (by decide) (by decide) i_I (s := (sx V (i + 1))) (show (-2147483648) ≤ (sx V (i + 1)) ∧ (sx V (i + 1)) ≤ 2147483647 by omega) i_W i_P) (by decide) (show 3 + 19 ≤ 406 by decide) (Nat.le_trans (show cs + 2 ≤ 600000 by omega) (Nat.le_of_eq lw_mc.symm)) (Nat.le_trans (show sl + 64514 ≤ 7302250 by omega) (Nat.le_of_eq lw_ms.symm)) rfl rfl rfl ?_
  rintro z2 m3 ⟨hm9, hf10, p4, p5, p6, p7, p8⟩
  have h11 : m3.1 0 = m.1 0 := hf10.1 0 rfl
  have h12 : m3.1 3 = m.1 3 := hf10.1 3 rfl
  have h13 : m3.1 7 = m.1 7 := hf10.1 7 rfl
  have h14 : m3.1 8 = m.1 8 := hf10.1 8 rfl
  have h15 : m3.1 10 = m.1 10 := hf10.1 10 rfl
  have h16 : m3.1 12 = m.1 12 := hf10.1 12 rfl
  have h17 : m3.1 22 = m.1 22 := hf10.1 22 rfl
  have h18 : m3.1 23 = m.1 23 := hf10.1 23 rfl
  have h19 : m3.1 25 = m.1 25 := hf10.1 25 rfl
  have h20 : m3.1 26 = m.1 26 := hf10.1 26 rfl
  have h21 : m3.1 28 = m.1 28 := hf10.1 28 rfl
  have h22 : m3.1 30 = m.1 30 := hf10.1 30 rfl
  have h23 : m3.1 38 = m.1 38 := hf10.1 38 rfl
  have h24 : m3.1 39 = m.1 39 := hf10.1 39 rfl
  have y2_m3 : m3.2.1 2 = m.2.1 2 := hf10.2.1 2 rfl
  have y64_m3 : m3.2.1 64 = m.2.1 64 := hf10.2.1 64 rfl
  have y4_m3 : m3.2.1 4 = m.2.1 4 := hf10.2.1 4 rfl
  have y5_m3 : m3.2.1 5 = m.2.1 5 := hf10.2.1 5 rfl
  have y6_m3 : m3.2.1 6 = m.2.1 6 := hf10.2.1 6 rfl
  have y7_m3 : m3.2.1 7 = m.2.1 7 := hf10.2.1 7 rfl
  have y66_m3 : m3.2.1 66 = m.2.1 66 := hf10.2.1 66 rfl
  have y32_m3 : m3.2.1 32 = m.2.1 32 := hf10.2.1 32 rfl
  have y33_m3 : m3.2.1 33 = m.2.1 33 := hf10.2.1 33 rfl
  have y73_m3 : m3.2.1 73 = m.2.1 73 := hf10.2.1 73 rfl
  have t25 : k4 m3 := k4_of (hf10.1 28 rfl) i_4
  have t26 : kD m3 := kD_of (hf10.1 26 rfl) (hf10.2.1 66 rfl) i_D
  have t27 : kK m3 := kK_same (hf10.1 28 rfl) (hf10.2.1 62 rfl) (hf10.2.1 63 rfl) i_K
  refine g_pop rfl rfl ?_
  refine g_aload_n (n := 2) rfl rfl ?_
  refine g_aload_n (n := 0) rfl rfl ?_
  refine g_iload_n (n := 3) rfl rfl ?_
  refine g_iconst rfl ?_
  refine g_iadd rfl ?_
  refine g_xld (by omega) (by omega) hL (show decode cL_law 439 = .ok (.iaload, 1) by decide +kernel) ?_
  have h28 := sx_rng V (i + 1)
  refine c_vI (i := 61) (ps := [vI (sx V (i + 1))]) (r := []) (as := [vR 61, vI (sx V (i + 1))]) (cs' := cs + 2 + 0) (sl' := sl + 64514 + 0) rfl rfl rfl rfl rfl rfl (kl_61 _) (d_by (d := 11 - 1) (q := 406 - (2 + 19)) (by decide) (by decide) hm9 (s := (sx V (i + 1))) (show (-2147483648) ≤ (sx V (i + 1)) ∧ (sx V (i + 1)) ≤ 2147483647 by omega) t25 t26 t27) (by decide) (show 2 + 19 ≤ 406 by decide) (Nat.le_trans (show cs + 2 + 0 ≤ 600000 by omega) (Nat.le_of_eq lw_mc.symm)) (Nat.le_trans (show sl + 64514 + 0 ≤ 7302250 by omega) (Nat.le_of_eq lw_ms.symm)) rfl rfl rfl ?_
  rintro z29 m30 ⟨hm36, hf37, p31, p32, p33, p34, p35⟩
  have h38 : m30.1 0 = m3.1 0 := hf37.1 0 rfl
  have h39 : m30.1 3 = m3.1 3 := hf37.1 3 rfl
  have h40 : m30.1 7 = m3.1 7 := hf37.1 7 rfl
  have h41 : m30.1 8 = m3.1 8 := hf37.1 8 rfl
  have h42 : m30.1 10 = m3.1 10 := hf37.1 10 rfl
  have h43 : m30.1 12 = m3.1 12 := hf37.1 12 rfl
  have h44 : m30.1 22 = m3.1 22 := hf37.1 22 rfl
  have h45 : m30.1 23 = m3.1 23 := hf37.1 23 rfl
  have h46 : m30.1 25 = m3.1 25 := hf37.1 25 rfl
  have h47 : m30.1 26 = m3.1 26 := hf37.1 26 rfl
  have h48 : m30.1 28 = m3.1 28 := hf37.1 28 rfl
  have h49 : m30.1 30 = m3.1 30 := hf37.1 30 rfl
  have h50 : m30.1 38 = m3.1 38 := hf37.1 38 rfl
  have h51 : m30.1 39 = m3.1 39 := hf37.1 39 rfl
  have y2_m30 : m30.2.1 2 = m3.2.1 2 := hf37.2.1 2 rfl
  have y64_m30 : m30.2.1 64 = m3.2.1 64 := hf37.2.1 64 rfl
  have y4_m30 : m30.2.1 4 = m3.2.1 4 := hf37.2.1 4 rfl
  have y5_m30 : m30.2.1 5 = m3.2.1 5 := hf37.2.1 5 rfl
  have y6_m30 : m30.2.1 6 = m3.2.1 6 := hf37.2.1 6 rfl
  have y7_m30 : m30.2.1 7 = m3.2.1 7 := hf37.2.1 7 rfl
  have y66_m30 : m30.2.1 66 = m3.2.1 66 := hf37.2.1 66 rfl
  have y32_m30 : m30.2.1 32 = m3.2.1 32 := hf37.2.1 32 rfl
  have y33_m30 : m30.2.1 33 = m3.2.1 33 := hf37.2.1 33 rfl
  have y73_m30 : m30.2.1 73 = m3.2.1 73 := hf37.2.1 73 rfl
  have t52 : kW m30 := kW_of (hf37.2.1 18 rfl) p6
  have t53 : kP m30 := kP_fr hf37 rfl rfl p7
  have R_m30 : m30.2.2.1 0 = m3.2.2.1 0 := by rw [hf37.2.2]
  refine g_pop rfl rfl ?_
  refine g_goto rfl ?_
  have r2n : m30.2.1 2 = m30.2.1 64 := by rw [y2_m30, y2_m3, y64_m30, y64_m3, r2]
  have hYn := DY_mv (show m30.1 26 = m.1 26 by omega) ((y66_m30).trans y66_m3) (show m30.1 30 = m.1 30 by omega) ((y4_m30).trans y4_m3) ((y5_m30).trans y5_m3) ((y6_m30).trans y6_m3) ((y7_m30).trans y7_m3) (show m30.1 12 = m.1 12 by omega) rY
  have hHn := HY_mv (show m30.1 22 = m.1 22 by omega) ((y32_m30).trans y32_m3) ((y33_m30).trans y33_m3) ((y73_m30).trans y73_m3) rH
  have hVn := DV_mv (show m30.1 7 = m.1 7 by omega) (show m30.1 8 = m.1 8 by omega) ((y4_m30).trans y4_m3) ((y5_m30).trans y5_m3) rV
  have hrl : rl m30 := ⟨by omega, r2n, by omega, by omega, by omega, by omega, by omega, hYn, hHn, hVn⟩
  have hb2 : sl + 64514 + 0 ≤ 267897 + pp (k + 1) ∨ (m30.2.2.1 0 ≠ vE 0 ∧ sl + 64514 + 0 ≤ 267897 + pp (k + 1 + 1)) := by
    rcases hbu.2 with h | ⟨h1, h2⟩
    · left; omega
    · right; refine ⟨?_, by omega⟩
      have u54 : m3.2.2.1 0 ≠ vE 0 := p8.elim (fun e => by rw [e]; exact h1) id
      have u55 : m30.2.2.1 0 ≠ vE 0 := by rw [R_m30]; exact u54
      exact u55
  exact K m30 (cs + 2 + 0) (sl + 64514 + 0) ⟨hm36, t52, t53, p33, p34, p35, hrl⟩ ⟨by omega, hb2⟩
theorem w_111 {V : cg_V} (hL : V.2.2.2.1 ≤ 256) {m : kM} {i : Int} {cs sl k : Nat} (hiv : iv m) (hbu : bu cs sl k m) (hk : k ≤ 63) (hi : 0 ≤ i ∧ i + 4 ≤ ((V.2.2.2.1 : Nat) : Int)) (hv1 : (sx V (i + 1) < 0 ∨ m.1 8 ≤ sx V (i + 1)) ∨ pth m (m.2.2.1 0)) (K : ∀ (m' : kM) (cs' sl' : Nat), iv m' → bu cs' sl' (k + 1) m' → cg_G V mL_law 11 406 (fun r => ∃ w9, r = (some (vI 1), w9)) 756 [(3, vI i), (2, vR 61), (1, vR 0), (0, vE 1)] [] (kl m') cs' sl') : cg_G V mL_law 11 406 (fun r => ∃ w9, r = (some (vI 1), w9)) 447 [(3, vI i), (2, vR 61), (1, vR 0), (0, vE 1)] [] (kl m) cs sl := by
  obtain ⟨i_I, i_W, i_P, i_4, i_D, i_K, r3, r2, r7, r8, r10, r22, r0, rY, rH, rV⟩ := hiv
  have b1 := hbu.1
  have pp1 := pp_s k
  have pp2 := pp_s (k + 1)
  have pp3 := pp_le (show k + 1 ≤ 64 by omega)
  have b2 : sl ≤ 267897 + pp (k + 1) := by rcases hbu.2 with h | h <;> omega
  refine g_aload_n (n := 1) rfl rfl ?_
  refine g_aload_n (n := 0) rfl rfl ?_
  refine g_iload_n (n := 3) rfl rfl ?_
  refine g_iconst rfl ?_
  refine g_iadd rfl ?_
  refine g_xld (by omega) (by omega) hL (show decode cL_law 452 = .ok (.iaload, 1) by decide +kernel) ?_
  have h1 := sx_rng V (i + 1)
  refine c_wI (me3 := mX9_worth1) (me2 := mX9_worth) rfl rfl rfl rfl (i := 0) (ps := [vI (sx V (i + 1))]) (r := []) (as := [vR 0, vI (sx V (i + 1))]) (cs' := cs + 2) (sl' := sl + 64514) rfl rfl rfl rfl rfl rfl (kl_0 _) (c_worth1 (d := 11 - 1) (q := 406 - (3 + 19)) (by decide) (by decide) i_I (a := (sx V (i + 1))) (show (-2147483648) ≤ (sx V (i + 1)) ∧ (sx V (i + 1)) ≤ 2147483647 by omega) i_W hv1) (by decide) (show 3 + 19 ≤ 406 by decide) (Nat.le_trans (show cs + 2 ≤ 600000 by omega) (Nat.le_of_eq lw_mc.symm)) (Nat.le_trans (show sl + 64514 ≤ 7302250 by omega) (Nat.le_of_eq lw_ms.symm)) rfl rfl rfl ?_
  rintro z2 m3 ⟨hm8, hf9, p4, p5, p6, p7⟩
  have h10 : m3.1 0 = m.1 0 := hf9.1 0 rfl
  have h11 : m3.1 3 = m.1 3 := hf9.1 3 rfl
  have h12 : m3.1 7 = m.1 7 := hf9.1 7 rfl
  have h13 : m3.1 8 = m.1 8 := hf9.1 8 rfl
  have h14 : m3.1 10 = m.1 10 := hf9.1 10 rfl
  have h15 : m3.1 12 = m.1 12 := hf9.1 12 rfl
  have h16 : m3.1 22 = m.1 22 := hf9.1 22 rfl
  have h17 : m3.1 23 = m.1 23 := hf9.1 23 rfl
  have h18 : m3.1 25 = m.1 25 := hf9.1 25 rfl
  have h19 : m3.1 26 = m.1 26 := hf9.1 26 rfl
  have h20 : m3.1 28 = m.1 28 := hf9.1 28 rfl
  have h21 : m3.1 30 = m.1 30 := hf9.1 30 rfl
  have h22 : m3.1 38 = m.1 38 := hf9.1 38 rfl
  have h23 : m3.1 39 = m.1 39 := hf9.1 39 rfl
  have y2_m3 : m3.2.1 2 = m.2.1 2 := hf9.2.1 2 rfl
  have y64_m3 : m3.2.1 64 = m.2.1 64 := hf9.2.1 64 rfl
  have y4_m3 : m3.2.1 4 = m.2.1 4 := hf9.2.1 4 rfl
  have y5_m3 : m3.2.1 5 = m.2.1 5 := hf9.2.1 5 rfl
  have y6_m3 : m3.2.1 6 = m.2.1 6 := hf9.2.1 6 rfl
  have y7_m3 : m3.2.1 7 = m.2.1 7 := p6
  have y66_m3 : m3.2.1 66 = m.2.1 66 := hf9.2.1 66 rfl
  have y32_m3 : m3.2.1 32 = m.2.1 32 := hf9.2.1 32 rfl
  have y33_m3 : m3.2.1 33 = m.2.1 33 := hf9.2.1 33 rfl
  have y73_m3 : m3.2.1 73 = m.2.1 73 := hf9.2.1 73 rfl
  have t24 : kP m3 := kP_fs hf9 i_P
  have t25 : k4 m3 := k4_of (hf9.1 28 rfl) i_4
  have t26 : kD m3 := kD_of (hf9.1 26 rfl) (hf9.2.1 66 rfl) i_D
  have t27 : kK m3 := kK_same (hf9.1 28 rfl) (hf9.2.1 62 rfl) (hf9.2.1 63 rfl) i_K
  have R_m3 : m3.2.2.1 0 = m.2.2.1 0 := congrFun hf9.2.2.2 0
  refine g_pop rfl rfl ?_
  refine g_aload_n (n := 2) rfl rfl ?_
  refine g_aload_n (n := 0) rfl rfl ?_
  refine g_iload_n (n := 3) rfl rfl ?_
  refine g_iconst rfl ?_
  refine g_iadd rfl ?_
  refine g_xld (by omega) (by omega) hL (show decode cL_law 462 = .ok (.iaload, 1) by decide +kernel) ?_
  have h28 := sx_rng V (i + 1)
  refine c_vI (i := 61) (ps := [vI (sx V (i + 1))]) (r := []) (as := [vR 61, vI (sx V (i + 1))]) (cs' := cs + 2 + 0) (sl' := sl + 64514 + 0) rfl rfl rfl rfl rfl rfl (kl_61 _) (d_worth (d := 11 - 1) (q := 406 - (5 + 19)) (by decide) (by decide) hm8 (a := (sx V (i + 1))) (show (-2147483648) ≤ (sx V (i + 1)) ∧ (sx V (i + 1)) ≤ 2147483647 by omega) t25 t26 t27) (by decide) (show 5 + 19 ≤ 406 by decide) (Nat.le_trans (show cs + 2 + 0 ≤ 600000 by omega) (Nat.le_of_eq lw_mc.symm)) (Nat.le_trans (show sl + 64514 + 0 ≤ 7302250 by omega) (Nat.le_of_eq lw_ms.symm)) rfl rfl rfl ?_
  rintro z29 m30 ⟨hm37, hf38, p31, p32, p33, p34, p35, p36⟩
  have h39 : m30.1 0 = m3.1 0 := hf38.1 0 rfl
  have h40 : m30.1 3 = m3.1 3 := hf38.1 3 rfl
  have h41 : m30.1 7 = m3.1 7 := hf38.1 7 rfl
  have h42 : m30.1 8 = m3.1 8 := hf38.1 8 rfl
  have h43 : m30.1 10 = m3.1 10 := hf38.1 10 rfl
  have h44 : m30.1 12 = m3.1 12 := hf38.1 12 rfl
  have h45 : m30.1 22 = m3.1 22 := hf38.1 22 rfl
  have h46 : m30.1 23 = m3.1 23 := hf38.1 23 rfl
  have h47 : m30.1 25 = m3.1 25 := hf38.1 25 rfl
  have h48 : m30.1 26 = m3.1 26 := hf38.1 26 rfl
  have h49 : m30.1 28 = m3.1 28 := hf38.1 28 rfl
  have h50 : m30.1 30 = m3.1 30 := hf38.1 30 rfl
  have h51 : m30.1 38 = m3.1 38 := hf38.1 38 rfl
  have h52 : m30.1 39 = m3.1 39 := hf38.1 39 rfl
  have y2_m30 : m30.2.1 2 = m3.2.1 2 := hf38.2.1 2 rfl
  have y64_m30 : m30.2.1 64 = m3.2.1 64 := hf38.2.1 64 rfl
  have y4_m30 : m30.2.1 4 = m3.2.1 4 := hf38.2.1 4 rfl
  have y5_m30 : m30.2.1 5 = m3.2.1 5 := hf38.2.1 5 rfl
  have y6_m30 : m30.2.1 6 = m3.2.1 6 := hf38.2.1 6 rfl
  have y7_m30 : m30.2.1 7 = m3.2.1 7 := hf38.2.1 7 rfl
  have y66_m30 : m30.2.1 66 = m3.2.1 66 := p33
  have y32_m30 : m30.2.1 32 = m3.2.1 32 := hf38.2.1 32 rfl
  have y33_m30 : m30.2.1 33 = m3.2.1 33 := hf38.2.1 33 rfl
  have y73_m30 : m30.2.1 73 = m3.2.1 73 := hf38.2.1 73 rfl
  have t53 : kW m30 := kW_of (hf38.2.1 18 rfl) p7
  have t54 : kP m30 := kP_fr hf38 rfl rfl t24
  have R_m30 : m30.2.2.1 0 = m3.2.2.1 0 := by rw [hf38.2.2]
  refine g_pop rfl rfl ?_
  refine g_goto rfl ?_
  have r2n : m30.2.1 2 = m30.2.1 64 := by rw [y2_m30, y2_m3, y64_m30, y64_m3, r2]
  have hYn := DY_mv (show m30.1 26 = m.1 26 by omega) ((y66_m30).trans y66_m3) (show m30.1 30 = m.1 30 by omega) ((y4_m30).trans y4_m3) ((y5_m30).trans y5_m3) ((y6_m30).trans y6_m3) ((y7_m30).trans y7_m3) (show m30.1 12 = m.1 12 by omega) rY
  have hHn := HY_mv (show m30.1 22 = m.1 22 by omega) ((y32_m30).trans y32_m3) ((y33_m30).trans y33_m3) ((y73_m30).trans y73_m3) rH
  have hVn := DV_mv (show m30.1 7 = m.1 7 by omega) (show m30.1 8 = m.1 8 by omega) ((y4_m30).trans y4_m3) ((y5_m30).trans y5_m3) rV
  have hrl : rl m30 := ⟨by omega, r2n, by omega, by omega, by omega, by omega, by omega, hYn, hHn, hVn⟩
  have hb2 : sl + 64514 + 0 ≤ 267897 + pp (k + 1) ∨ (m30.2.2.1 0 ≠ vE 0 ∧ sl + 64514 + 0 ≤ 267897 + pp (k + 1 + 1)) := by
    rcases hbu.2 with h | ⟨h1, h2⟩
    · left; omega
    · right; refine ⟨?_, by omega⟩
      have u55 : m3.2.2.1 0 ≠ vE 0 := by rw [R_m3]; exact h1
      have u56 : m30.2.2.1 0 ≠ vE 0 := by rw [R_m30]; exact u55
      exact u56
  exact K m30 (cs + 2 + 0) (sl + 64514 + 0) ⟨hm37, t53, t54, p34, p35, p36, hrl⟩ ⟨by omega, hb2⟩
theorem w_112 {V : cg_V} (hL : V.2.2.2.1 ≤ 256) {m : kM} {i : Int} {cs sl k : Nat} (hiv : iv m) (hbu : bu cs sl k m) (hk : k ≤ 63) (hi : 0 ≤ i ∧ i + 4 ≤ ((V.2.2.2.1 : Nat) : Int)) (hvd : 0 ≤ sx V (i + 1) ∧ sx V (i + 1) < m.1 8) (hn0 : sl ≤ 267897 + pp k) (K : ∀ (m' : kM) (cs' sl' : Nat), iv m' → bu cs' sl' (k + 1) m' → cg_G V mL_law 11 406 (fun r => ∃ w9, r = (some (vI 1), w9)) 756 [(3, vI i), (2, vR 61), (1, vR 0), (0, vE 1)] [] (kl m') cs' sl') : cg_G V mL_law 11 406 (fun r => ∃ w9, r = (some (vI 1), w9)) 447 [(3, vI i), (2, vR 61), (1, vR 0), (0, vE 1)] [] (kl m) cs sl := by
  obtain ⟨i_I, i_W, i_P, i_4, i_D, i_K, r3, r2, r7, r8, r10, r22, r0, rY, rH, rV⟩ := hiv
  have b1 := hbu.1
  have pp1 := pp_s k
  have pp2 := pp_s (k + 1)
  have pp3 := pp_le (show k + 1 ≤ 64 by omega)
  have b2 : sl ≤ 267897 + pp (k + 1) := by rcases hbu.2 with h | h <;> omega
  refine g_aload_n (n := 1) rfl rfl ?_
  refine g_aload_n (n := 0) rfl rfl ?_
  refine g_iload_n (n := 3) rfl rfl ?_
  refine g_iconst rfl ?_
  refine g_iadd rfl ?_
  refine g_xld (by omega) (by omega) hL (show decode cL_law 452 = .ok (.iaload, 1) by decide +kernel) ?_
  have h1 := sx_rng V (i + 1)
  refine c_vI (i := 0) (ps := [vI (sx V (i + 1))]) (r := []) (as := [vR 0, vI (sx V (i + 1))]) (cs' := cs + 4) (sl' := sl + 129028) rfl rfl rfl rfl rfl rfl (kl_0 _) (c_worth (d := 11 - 1) (q := 406 - (3 + 19)) (by decide) (by decide) i_I (a := (sx V (i + 1))) (show (-2147483648) ≤ (sx V (i + 1)) ∧ (sx V (i + 1)) ≤ 2147483647 by omega) i_W i_P hvd) (by decide) (show 3 + 19 ≤ 406 by decide) (Nat.le_trans (show cs + 4 ≤ 600000 by omega) (Nat.le_of_eq lw_mc.symm)) (Nat.le_trans (show sl + 129028 ≤ 7302250 by omega) (Nat.le_of_eq lw_ms.symm)) rfl rfl rfl ?_
  rintro z2 m3 ⟨hm10, hf11, p4, p5, p6, p7, p8, p9⟩
  have h12 : m3.1 0 = m.1 0 := hf11.1 0 rfl
  have h13 : m3.1 3 = m.1 3 := hf11.1 3 rfl
  have h14 : m3.1 7 = m.1 7 := hf11.1 7 rfl
  have h15 : m3.1 8 = m.1 8 := hf11.1 8 rfl
  have h16 : m3.1 10 = m.1 10 := hf11.1 10 rfl
  have h17 : m3.1 12 = m.1 12 := hf11.1 12 rfl
  have h18 : m3.1 22 = m.1 22 := hf11.1 22 rfl
  have h19 : m3.1 23 = m.1 23 := hf11.1 23 rfl
  have h20 : m3.1 25 = m.1 25 := hf11.1 25 rfl
  have h21 : m3.1 26 = m.1 26 := hf11.1 26 rfl
  have h22 : m3.1 28 = m.1 28 := hf11.1 28 rfl
  have h23 : m3.1 30 = m.1 30 := hf11.1 30 rfl
  have h24 : m3.1 38 = m.1 38 := hf11.1 38 rfl
  have h25 : m3.1 39 = m.1 39 := hf11.1 39 rfl
  have y2_m3 : m3.2.1 2 = m.2.1 2 := hf11.2.1 2 rfl
  have y64_m3 : m3.2.1 64 = m.2.1 64 := hf11.2.1 64 rfl
  have y4_m3 : m3.2.1 4 = m.2.1 4 := hf11.2.1 4 rfl
  have y5_m3 : m3.2.1 5 = m.2.1 5 := hf11.2.1 5 rfl
  have y6_m3 : m3.2.1 6 = m.2.1 6 := hf11.2.1 6 rfl
  have y7_m3 : m3.2.1 7 = m.2.1 7 := p6
  have y66_m3 : m3.2.1 66 = m.2.1 66 := hf11.2.1 66 rfl
  have y32_m3 : m3.2.1 32 = m.2.1 32 := hf11.2.1 32 rfl
  have y33_m3 : m3.2.1 33 = m.2.1 33 := hf11.2.1 33 rfl
  have y73_m3 : m3.2.1 73 = m.2.1 73 := hf11.2.1 73 rfl
  have t26 : k4 m3 := k4_of (hf11.1 28 rfl) i_4
  have t27 : kD m3 := kD_of (hf11.1 26 rfl) (hf11.2.1 66 rfl) i_D
  have t28 : kK m3 := kK_same (hf11.1 28 rfl) (hf11.2.1 62 rfl) (hf11.2.1 63 rfl) i_K
  refine g_pop rfl rfl ?_
  refine g_aload_n (n := 2) rfl rfl ?_
  refine g_aload_n (n := 0) rfl rfl ?_
  refine g_iload_n (n := 3) rfl rfl ?_
  refine g_iconst rfl ?_
  refine g_iadd rfl ?_
  refine g_xld (by omega) (by omega) hL (show decode cL_law 462 = .ok (.iaload, 1) by decide +kernel) ?_
  have h29 := sx_rng V (i + 1)
  refine c_vI (i := 61) (ps := [vI (sx V (i + 1))]) (r := []) (as := [vR 61, vI (sx V (i + 1))]) (cs' := cs + 4 + 0) (sl' := sl + 129028 + 0) rfl rfl rfl rfl rfl rfl (kl_61 _) (d_worth (d := 11 - 1) (q := 406 - (5 + 19)) (by decide) (by decide) hm10 (a := (sx V (i + 1))) (show (-2147483648) ≤ (sx V (i + 1)) ∧ (sx V (i + 1)) ≤ 2147483647 by omega) t26 t27 t28) (by decide) (show 5 + 19 ≤ 406 by decide) (Nat.le_trans (show cs + 4 + 0 ≤ 600000 by omega) (Nat.le_of_eq lw_mc.symm)) (Nat.le_trans (show sl + 129028 + 0 ≤ 7302250 by omega) (Nat.le_of_eq lw_ms.symm)) rfl rfl rfl ?_
  rintro z30 m31 ⟨hm38, hf39, p32, p33, p34, p35, p36, p37⟩
  have h40 : m31.1 0 = m3.1 0 := hf39.1 0 rfl
  have h41 : m31.1 3 = m3.1 3 := hf39.1 3 rfl
  have h42 : m31.1 7 = m3.1 7 := hf39.1 7 rfl
  have h43 : m31.1 8 = m3.1 8 := hf39.1 8 rfl
  have h44 : m31.1 10 = m3.1 10 := hf39.1 10 rfl
  have h45 : m31.1 12 = m3.1 12 := hf39.1 12 rfl
  have h46 : m31.1 22 = m3.1 22 := hf39.1 22 rfl
  have h47 : m31.1 23 = m3.1 23 := hf39.1 23 rfl
  have h48 : m31.1 25 = m3.1 25 := hf39.1 25 rfl
  have h49 : m31.1 26 = m3.1 26 := hf39.1 26 rfl
  have h50 : m31.1 28 = m3.1 28 := hf39.1 28 rfl
  have h51 : m31.1 30 = m3.1 30 := hf39.1 30 rfl
  have h52 : m31.1 38 = m3.1 38 := hf39.1 38 rfl
  have h53 : m31.1 39 = m3.1 39 := hf39.1 39 rfl
  have y2_m31 : m31.2.1 2 = m3.2.1 2 := hf39.2.1 2 rfl
  have y64_m31 : m31.2.1 64 = m3.2.1 64 := hf39.2.1 64 rfl
  have y4_m31 : m31.2.1 4 = m3.2.1 4 := hf39.2.1 4 rfl
  have y5_m31 : m31.2.1 5 = m3.2.1 5 := hf39.2.1 5 rfl
  have y6_m31 : m31.2.1 6 = m3.2.1 6 := hf39.2.1 6 rfl
  have y7_m31 : m31.2.1 7 = m3.2.1 7 := hf39.2.1 7 rfl
  have y66_m31 : m31.2.1 66 = m3.2.1 66 := p34
  have y32_m31 : m31.2.1 32 = m3.2.1 32 := hf39.2.1 32 rfl
  have y33_m31 : m31.2.1 33 = m3.2.1 33 := hf39.2.1 33 rfl
  have y73_m31 : m31.2.1 73 = m3.2.1 73 := hf39.2.1 73 rfl
  have t54 : kW m31 := kW_of (hf39.2.1 18 rfl) p7
  have t55 : kP m31 := kP_fr hf39 rfl rfl p8
  have R_m31 : m31.2.2.1 0 = m3.2.2.1 0 := by rw [hf39.2.2]
  refine g_pop rfl rfl ?_
  refine g_goto rfl ?_
  have r2n : m31.2.1 2 = m31.2.1 64 := by rw [y2_m31, y2_m3, y64_m31, y64_m3, r2]
  have hYn := DY_mv (show m31.1 26 = m.1 26 by omega) ((y66_m31).trans y66_m3) (show m31.1 30 = m.1 30 by omega) ((y4_m31).trans y4_m3) ((y5_m31).trans y5_m3) ((y6_m31).trans y6_m3) ((y7_m31).trans y7_m3) (show m31.1 12 = m.1 12 by omega) rY
  have hHn := HY_mv (show m31.1 22 = m.1 22 by omega) ((y32_m31).trans y32_m3) ((y33_m31).trans y33_m3) ((y73_m31).trans y73_m3) rH
  have hVn := DV_mv (show m31.1 7 = m.1 7 by omega) (show m31.1 8 = m.1 8 by omega) ((y4_m31).trans y4_m3) ((y5_m31).trans y5_m3) rV
  have hrl : rl m31 := ⟨by omega, r2n, by omega, by omega, by omega, by omega, by omega, hYn, hHn, hVn⟩
  have hne : m31.2.2.1 0 ≠ vE 0 := by rw [R_m31]; exact p9
  exact K m31 (cs + 4 + 0) (sl + 129028 + 0) ⟨hm38, t54, t55, p35, p36, p37, hrl⟩ ⟨by omega, Or.inr ⟨hne, by omega⟩⟩
theorem w_12 {V : cg_V} (hL : V.2.2.2.1 ≤ 256) {m : kM} {i : Int} {cs sl k : Nat} (hiv : iv m) (hbu : bu cs sl k m) (hk : k ≤ 63) (hi : 0 ≤ i ∧ i + 4 ≤ ((V.2.2.2.1 : Nat) : Int)) (K : ∀ (m' : kM) (cs' sl' : Nat), iv m' → bu cs' sl' (k + 1) m' → cg_G V mL_law 11 406 (fun r => ∃ w9, r = (some (vI 1), w9)) 756 [(3, vI i), (2, vR 61), (1, vR 0), (0, vE 1)] [] (kl m') cs' sl') : cg_G V mL_law 11 406 (fun r => ∃ w9, r = (some (vI 1), w9)) 470 [(3, vI i), (2, vR 61), (1, vR 0), (0, vE 1)] [] (kl m) cs sl := by
  obtain ⟨i_I, i_W, i_P, i_4, i_D, i_K, r3, r2, r7, r8, r10, r22, r0, rY, rH, rV⟩ := hiv
  have b1 := hbu.1
  have pp1 := pp_s k
  have pp2 := pp_s (k + 1)
  have pp3 := pp_le (show k + 1 ≤ 64 by omega)
  have b2 : sl ≤ 267897 + pp (k + 1) := by rcases hbu.2 with h | h <;> omega
  refine g_aload_n (n := 1) rfl rfl ?_
  refine g_aload_n (n := 0) rfl rfl ?_
  refine g_iload_n (n := 3) rfl rfl ?_
  refine g_iconst rfl ?_
  refine g_iadd rfl ?_
  refine g_xld (by omega) (by omega) hL (show decode cL_law 475 = .ok (.iaload, 1) by decide +kernel) ?_
  have h1 := sx_rng V (i + 1)
  refine c_vI (i := 0) (ps := [vI (sx V (i + 1))]) (r := []) (as := [vR 0, vI (sx V (i + 1))]) (cs' := cs + 2) (sl' := sl + 64514) rfl rfl rfl rfl rfl rfl (kl_0 _) (c_out (d := 11 - 1) (q := 406 - (2 + 19)) (by decide) (by decide) i_I (i := (sx V (i + 1))) (show (-2147483648) ≤ (sx V (i + 1)) ∧ (sx V (i + 1)) ≤ 2147483647 by omega) i_W i_P) (by decide) (show 2 + 19 ≤ 406 by decide) (Nat.le_trans (show cs + 2 ≤ 600000 by omega) (Nat.le_of_eq lw_mc.symm)) (Nat.le_trans (show sl + 64514 ≤ 7302250 by omega) (Nat.le_of_eq lw_ms.symm)) rfl rfl rfl ?_
  rintro z2 m3 ⟨hm9, hf10, p4, p5, p6, p7, p8⟩
  have h11 : m3.1 0 = m.1 0 := hf10.1 0 rfl
  have h12 : m3.1 3 = m.1 3 := hf10.1 3 rfl
  have h13 : m3.1 7 = m.1 7 := hf10.1 7 rfl
  have h14 : m3.1 8 = m.1 8 := hf10.1 8 rfl
  have h15 : m3.1 10 = m.1 10 := hf10.1 10 rfl
  have h16 : m3.1 12 = m.1 12 := hf10.1 12 rfl
  have h17 : m3.1 22 = m.1 22 := hf10.1 22 rfl
  have h18 : m3.1 23 = m.1 23 := hf10.1 23 rfl
  have h19 : m3.1 25 = m.1 25 := hf10.1 25 rfl
  have h20 : m3.1 26 = m.1 26 := hf10.1 26 rfl
  have h21 : m3.1 28 = m.1 28 := hf10.1 28 rfl
  have h22 : m3.1 30 = m.1 30 := hf10.1 30 rfl
  have h23 : m3.1 38 = m.1 38 := hf10.1 38 rfl
  have h24 : m3.1 39 = m.1 39 := hf10.1 39 rfl
  have y2_m3 : m3.2.1 2 = m.2.1 2 := hf10.2.1 2 rfl
  have y64_m3 : m3.2.1 64 = m.2.1 64 := hf10.2.1 64 rfl
  have y4_m3 : m3.2.1 4 = m.2.1 4 := hf10.2.1 4 rfl
  have y5_m3 : m3.2.1 5 = m.2.1 5 := hf10.2.1 5 rfl
  have y6_m3 : m3.2.1 6 = m.2.1 6 := hf10.2.1 6 rfl
  have y7_m3 : m3.2.1 7 = m.2.1 7 := hf10.2.1 7 rfl
  have y66_m3 : m3.2.1 66 = m.2.1 66 := hf10.2.1 66 rfl
  have y32_m3 : m3.2.1 32 = m.2.1 32 := hf10.2.1 32 rfl
  have y33_m3 : m3.2.1 33 = m.2.1 33 := hf10.2.1 33 rfl
  have y73_m3 : m3.2.1 73 = m.2.1 73 := hf10.2.1 73 rfl
  have t25 : k4 m3 := k4_of (hf10.1 28 rfl) i_4
  have t26 : kD m3 := kD_of (hf10.1 26 rfl) (hf10.2.1 66 rfl) i_D
  have t27 : kK m3 := kK_same (hf10.1 28 rfl) (hf10.2.1 62 rfl) (hf10.2.1 63 rfl) i_K
  refine g_pop rfl rfl ?_
  refine g_aload_n (n := 2) rfl rfl ?_
  refine g_aload_n (n := 0) rfl rfl ?_
  refine g_iload_n (n := 3) rfl rfl ?_
  refine g_iconst rfl ?_
  refine g_iadd rfl ?_
  refine g_xld (by omega) (by omega) hL (show decode cL_law 485 = .ok (.iaload, 1) by decide +kernel) ?_
  have h28 := sx_rng V (i + 1)
  refine c_vI (i := 61) (ps := [vI (sx V (i + 1))]) (r := []) (as := [vR 61, vI (sx V (i + 1))]) (cs' := cs + 2 + 0) (sl' := sl + 64514 + 0) rfl rfl rfl rfl rfl rfl (kl_61 _) (d_out (d := 11 - 1) (q := 406 - (2 + 19)) (by decide) (by decide) hm9 (i := (sx V (i + 1))) (show (-2147483648) ≤ (sx V (i + 1)) ∧ (sx V (i + 1)) ≤ 2147483647 by omega) t25 t26 t27) (by decide) (show 2 + 19 ≤ 406 by decide) (Nat.le_trans (show cs + 2 + 0 ≤ 600000 by omega) (Nat.le_of_eq lw_mc.symm)) (Nat.le_trans (show sl + 64514 + 0 ≤ 7302250 by omega) (Nat.le_of_eq lw_ms.symm)) rfl rfl rfl ?_
  rintro z29 m30 ⟨hm36, hf37, p31, p32, p33, p34, p35⟩
  have h38 : m30.1 0 = m3.1 0 := hf37.1 0 rfl
  have h39 : m30.1 3 = m3.1 3 := hf37.1 3 rfl
  have h40 : m30.1 7 = m3.1 7 := hf37.1 7 rfl
  have h41 : m30.1 8 = m3.1 8 := hf37.1 8 rfl
  have h42 : m30.1 10 = m3.1 10 := hf37.1 10 rfl
  have h43 : m30.1 12 = m3.1 12 := hf37.1 12 rfl
  have h44 : m30.1 22 = m3.1 22 := hf37.1 22 rfl
  have h45 : m30.1 23 = m3.1 23 := hf37.1 23 rfl
  have h46 : m30.1 25 = m3.1 25 := hf37.1 25 rfl
  have h47 : m30.1 26 = m3.1 26 := hf37.1 26 rfl
  have h48 : m30.1 28 = m3.1 28 := hf37.1 28 rfl
  have h49 : m30.1 30 = m3.1 30 := hf37.1 30 rfl
  have h50 : m30.1 38 = m3.1 38 := hf37.1 38 rfl
  have h51 : m30.1 39 = m3.1 39 := hf37.1 39 rfl
  have y2_m30 : m30.2.1 2 = m3.2.1 2 := hf37.2.1 2 rfl
  have y64_m30 : m30.2.1 64 = m3.2.1 64 := hf37.2.1 64 rfl
  have y4_m30 : m30.2.1 4 = m3.2.1 4 := hf37.2.1 4 rfl
  have y5_m30 : m30.2.1 5 = m3.2.1 5 := hf37.2.1 5 rfl
  have y6_m30 : m30.2.1 6 = m3.2.1 6 := hf37.2.1 6 rfl
  have y7_m30 : m30.2.1 7 = m3.2.1 7 := hf37.2.1 7 rfl
  have y66_m30 : m30.2.1 66 = m3.2.1 66 := hf37.2.1 66 rfl
  have y32_m30 : m30.2.1 32 = m3.2.1 32 := hf37.2.1 32 rfl
  have y33_m30 : m30.2.1 33 = m3.2.1 33 := hf37.2.1 33 rfl
  have y73_m30 : m30.2.1 73 = m3.2.1 73 := hf37.2.1 73 rfl
  have t52 : kW m30 := kW_of (hf37.2.1 18 rfl) p6
  have t53 : kP m30 := kP_fr hf37 rfl rfl p7
  have R_m30 : m30.2.2.1 0 = m3.2.2.1 0 := by rw [hf37.2.2]
  refine g_pop rfl rfl ?_
  refine g_goto rfl ?_
  have r2n : m30.2.1 2 = m30.2.1 64 := by rw [y2_m30, y2_m3, y64_m30, y64_m3, r2]
  have hYn := DY_mv (show m30.1 26 = m.1 26 by omega) ((y66_m30).trans y66_m3) (show m30.1 30 = m.1 30 by omega) ((y4_m30).trans y4_m3) ((y5_m30).trans y5_m3) ((y6_m30).trans y6_m3) ((y7_m30).trans y7_m3) (show m30.1 12 = m.1 12 by omega) rY
  have hHn := HY_mv (show m30.1 22 = m.1 22 by omega) ((y32_m30).trans y32_m3) ((y33_m30).trans y33_m3) ((y73_m30).trans y73_m3) rH
  have hVn := DV_mv (show m30.1 7 = m.1 7 by omega) (show m30.1 8 = m.1 8 by omega) ((y4_m30).trans y4_m3) ((y5_m30).trans y5_m3) rV
  have hrl : rl m30 := ⟨by omega, r2n, by omega, by omega, by omega, by omega, by omega, hYn, hHn, hVn⟩
  have hb2 : sl + 64514 + 0 ≤ 267897 + pp (k + 1) ∨ (m30.2.2.1 0 ≠ vE 0 ∧ sl + 64514 + 0 ≤ 267897 + pp (k + 1 + 1)) := by
    rcases hbu.2 with h | ⟨h1, h2⟩
    · left; omega
    · right; refine ⟨?_, by omega⟩
      have u54 : m3.2.2.1 0 ≠ vE 0 := p8.elim (fun e => by rw [e]; exact h1) id
      have u55 : m30.2.2.1 0 ≠ vE 0 := by rw [R_m30]; exact u54
      exact u55
  exact K m30 (cs + 2 + 0) (sl + 64514 + 0) ⟨hm36, t52, t53, p33, p34, p35, hrl⟩ ⟨by omega, hb2⟩
theorem w_13 {V : cg_V} (hL : V.2.2.2.1 ≤ 256) {m : kM} {i : Int} {cs sl k : Nat} (hiv : iv m) (hbu : bu cs sl k m) (hk : k ≤ 63) (hi : 0 ≤ i ∧ i + 4 ≤ ((V.2.2.2.1 : Nat) : Int)) (K : ∀ (m' : kM) (cs' sl' : Nat), iv m' → bu cs' sl' (k + 1) m' → cg_G V mL_law 11 406 (fun r => ∃ w9, r = (some (vI 1), w9)) 756 [(3, vI i), (2, vR 61), (1, vR 0), (0, vE 1)] [] (kl m') cs' sl') : cg_G V mL_law 11 406 (fun r => ∃ w9, r = (some (vI 1), w9)) 493 [(3, vI i), (2, vR 61), (1, vR 0), (0, vE 1)] [] (kl m) cs sl := by
  obtain ⟨i_I, i_W, i_P, i_4, i_D, i_K, r3, r2, r7, r8, r10, r22, r0, rY, rH, rV⟩ := hiv
  have b1 := hbu.1
  have pp1 := pp_s k
  have pp2 := pp_s (k + 1)
  have pp3 := pp_le (show k + 1 ≤ 64 by omega)
  have b2 : sl ≤ 267897 + pp (k + 1) := by rcases hbu.2 with h | h <;> omega
  refine g_aload_n (n := 1) rfl rfl ?_
  refine g_aload_n (n := 0) rfl rfl ?_
  refine g_iload_n (n := 3) rfl rfl ?_
  refine g_iconst rfl ?_
  refine g_iadd rfl ?_
  refine g_xld (by omega) (by omega) hL (show decode cL_law 498 = .ok (.iaload, 1) by decide +kernel) ?_
  have h1 := sx_rng V (i + 1)
  refine g_aload_n (n := 0) rfl rfl ?_
  refine g_iload_n (n := 3) rfl rfl ?_
  refine g_iconst rfl ?_
  refine g_iadd rfl ?_
  refine g_xld (by omega) (by omega) hL (show decode cL_law 503 = .ok (.iaload, 1) by decide +kernel) ?_
  have h2 := sx_rng V (i + 2)
  refine g_aload_n (n := 0) rfl rfl ?_
  refine g_iload_n (n := 3) rfl rfl ?_
  refine g_iconst rfl ?_
  refine g_iadd rfl ?_
  refine g_xld (by omega) (by omega) hL (show decode cL_law 508 = .ok (.iaload, 1) by decide +kernel) ?_
  have h3 := sx_rng V (i + 3)
  refine c_vL (i := 0) (ps := [vI (sx V (i + 3)), vI (sx V (i + 2)), vI (sx V (i + 1))]) (r := []) (as := [vR 0, vI (sx V (i + 1)), vI (sx V (i + 2)), vI (sx V (i + 3))]) (cs' := cs + 2) (sl' := sl + 64514) rfl rfl rfl rfl rfl rfl (kl_0 _) (c_odds (d := 11 - 1) (q := 406 - (6 + 19)) (by decide) (by decide) i_I (p := (sx V (i + 1))) (e := (sx V (i + 2))) (w := (sx V (i + 3))) (show (-2147483648) ≤ (sx V (i + 1)) ∧ (sx V (i + 1)) ≤ 2147483647 by omega) (show (-2147483648) ≤ (sx V (i + 2)) ∧ (sx V (i + 2)) ≤ 2147483647 by omega) (show (-2147483648) ≤ (sx V (i + 3)) ∧ (sx V (i + 3)) ≤ 2147483647 by omega) i_W i_P) (by decide) (show 6 + 19 ≤ 406 by decide) (Nat.le_trans (show cs + 2 ≤ 600000 by omega) (Nat.le_of_eq lw_mc.symm)) (Nat.le_trans (show sl + 64514 ≤ 7302250 by omega) (Nat.le_of_eq lw_ms.symm)) rfl rfl rfl ?_
  rintro z4 m5 ⟨hm11, hf12, p6, p7, p8, p9, p10⟩
  have h13 : m5.1 0 = m.1 0 := hf12.1 0 rfl
  have h14 : m5.1 3 = m.1 3 := hf12.1 3 rfl
  have h15 : m5.1 7 = m.1 7 := hf12.1 7 rfl
  have h16 : m5.1 8 = m.1 8 := hf12.1 8 rfl
  have h17 : m5.1 10 = m.1 10 := hf12.1 10 rfl
  have h18 : m5.1 12 = m.1 12 := hf12.1 12 rfl
  have h19 : m5.1 22 = m.1 22 := hf12.1 22 rfl
  have h20 : m5.1 23 = m.1 23 := hf12.1 23 rfl
  have h21 : m5.1 25 = m.1 25 := hf12.1 25 rfl
  have h22 : m5.1 26 = m.1 26 := hf12.1 26 rfl
  have h23 : m5.1 28 = m.1 28 := hf12.1 28 rfl
  have h24 : m5.1 30 = m.1 30 := hf12.1 30 rfl
  have h25 : m5.1 38 = m.1 38 := hf12.1 38 rfl
  have h26 : m5.1 39 = m.1 39 := hf12.1 39 rfl
  have y2_m5 : m5.2.1 2 = m.2.1 2 := hf12.2.1 2 rfl
  have y64_m5 : m5.2.1 64 = m.2.1 64 := hf12.2.1 64 rfl
  have y4_m5 : m5.2.1 4 = m.2.1 4 := hf12.2.1 4 rfl
  have y5_m5 : m5.2.1 5 = m.2.1 5 := hf12.2.1 5 rfl
  have y6_m5 : m5.2.1 6 = m.2.1 6 := hf12.2.1 6 rfl
  have y7_m5 : m5.2.1 7 = m.2.1 7 := hf12.2.1 7 rfl
  have y66_m5 : m5.2.1 66 = m.2.1 66 := hf12.2.1 66 rfl
  have y32_m5 : m5.2.1 32 = m.2.1 32 := hf12.2.1 32 rfl
  have y33_m5 : m5.2.1 33 = m.2.1 33 := hf12.2.1 33 rfl
  have y73_m5 : m5.2.1 73 = m.2.1 73 := hf12.2.1 73 rfl
  have t27 : k4 m5 := k4_of (hf12.1 28 rfl) i_4
  have t28 : kD m5 := kD_of (hf12.1 26 rfl) (hf12.2.1 66 rfl) i_D
  have t29 : kK m5 := kK_same (hf12.1 28 rfl) (hf12.2.1 62 rfl) (hf12.2.1 63 rfl) i_K
  refine g_pop2 rfl rfl ?_
  refine g_aload_n (n := 2) rfl rfl ?_
  refine g_aload_n (n := 0) rfl rfl ?_
  refine g_iload_n (n := 3) rfl rfl ?_
  refine g_iconst rfl ?_
  refine g_iadd rfl ?_
  refine g_xld (by omega) (by omega) hL (show decode cL_law 518 = .ok (.iaload, 1) by decide +kernel) ?_
  have h30 := sx_rng V (i + 1)
  refine g_aload_n (n := 0) rfl rfl ?_
  refine g_iload_n (n := 3) rfl rfl ?_
  refine g_iconst rfl ?_
  refine g_iadd rfl ?_
  refine g_xld (by omega) (by omega) hL (show decode cL_law 523 = .ok (.iaload, 1) by decide +kernel) ?_
  have h31 := sx_rng V (i + 2)
  refine g_aload_n (n := 0) rfl rfl ?_
  refine g_iload_n (n := 3) rfl rfl ?_
  refine g_iconst rfl ?_
  refine g_iadd rfl ?_
  refine g_xld (by omega) (by omega) hL (show decode cL_law 528 = .ok (.iaload, 1) by decide +kernel) ?_
  have h32 := sx_rng V (i + 3)
  refine c_vL (i := 61) (ps := [vI (sx V (i + 3)), vI (sx V (i + 2)), vI (sx V (i + 1))]) (r := []) (as := [vR 61, vI (sx V (i + 1)), vI (sx V (i + 2)), vI (sx V (i + 3))]) (cs' := cs + 2 + 0) (sl' := sl + 64514 + 0) rfl rfl rfl rfl rfl rfl (kl_61 _) (d_odds (d := 11 - 1) (q := 406 - (13 + 19)) (by decide) (by decide) hm11 (p := (sx V (i + 1))) (e := (sx V (i + 2))) (w := (sx V (i + 3))) (show (-2147483648) ≤ (sx V (i + 1)) ∧ (sx V (i + 1)) ≤ 2147483647 by omega) (show (-2147483648) ≤ (sx V (i + 2)) ∧ (sx V (i + 2)) ≤ 2147483647 by omega) (show (-2147483648) ≤ (sx V (i + 3)) ∧ (sx V (i + 3)) ≤ 2147483647 by omega) t27 t28 t29) (by decide) (show 13 + 19 ≤ 406 by decide) (Nat.le_trans (show cs + 2 + 0 ≤ 600000 by omega) (Nat.le_of_eq lw_mc.symm)) (Nat.le_trans (show sl + 64514 + 0 ≤ 7302250 by omega) (Nat.le_of_eq lw_ms.symm)) rfl rfl rfl ?_
  rintro z33 m34 ⟨hm40, hf41, p35, p36, p37, p38, p39⟩
  have h42 : m34.1 0 = m5.1 0 := hf41.1 0 rfl
  have h43 : m34.1 3 = m5.1 3 := hf41.1 3 rfl
  have h44 : m34.1 7 = m5.1 7 := hf41.1 7 rfl
  have h45 : m34.1 8 = m5.1 8 := hf41.1 8 rfl
  have h46 : m34.1 10 = m5.1 10 := hf41.1 10 rfl
  have h47 : m34.1 12 = m5.1 12 := hf41.1 12 rfl
  have h48 : m34.1 22 = m5.1 22 := hf41.1 22 rfl
  have h49 : m34.1 23 = m5.1 23 := hf41.1 23 rfl
  have h50 : m34.1 25 = m5.1 25 := hf41.1 25 rfl
  have h51 : m34.1 26 = m5.1 26 := hf41.1 26 rfl
  have h52 : m34.1 28 = m5.1 28 := hf41.1 28 rfl
  have h53 : m34.1 30 = m5.1 30 := hf41.1 30 rfl
  have h54 : m34.1 38 = m5.1 38 := hf41.1 38 rfl
  have h55 : m34.1 39 = m5.1 39 := hf41.1 39 rfl
  have y2_m34 : m34.2.1 2 = m5.2.1 2 := hf41.2.1 2 rfl
  have y64_m34 : m34.2.1 64 = m5.2.1 64 := hf41.2.1 64 rfl
  have y4_m34 : m34.2.1 4 = m5.2.1 4 := hf41.2.1 4 rfl
  have y5_m34 : m34.2.1 5 = m5.2.1 5 := hf41.2.1 5 rfl
  have y6_m34 : m34.2.1 6 = m5.2.1 6 := hf41.2.1 6 rfl
  have y7_m34 : m34.2.1 7 = m5.2.1 7 := hf41.2.1 7 rfl
  have y66_m34 : m34.2.1 66 = m5.2.1 66 := hf41.2.1 66 rfl
  have y32_m34 : m34.2.1 32 = m5.2.1 32 := hf41.2.1 32 rfl
  have y33_m34 : m34.2.1 33 = m5.2.1 33 := hf41.2.1 33 rfl
  have y73_m34 : m34.2.1 73 = m5.2.1 73 := hf41.2.1 73 rfl
  have t56 : kW m34 := kW_of (hf41.2.1 18 rfl) p8
  have t57 : kP m34 := kP_fr hf41 rfl rfl p9
  have R_m34 : m34.2.2.1 0 = m5.2.2.1 0 := by rw [hf41.2.2]
  refine g_pop2 rfl rfl ?_
  refine g_goto rfl ?_
  have r2n : m34.2.1 2 = m34.2.1 64 := by rw [y2_m34, y2_m5, y64_m34, y64_m5, r2]
  have hYn := DY_mv (show m34.1 26 = m.1 26 by omega) ((y66_m34).trans y66_m5) (show m34.1 30 = m.1 30 by omega) ((y4_m34).trans y4_m5) ((y5_m34).trans y5_m5) ((y6_m34).trans y6_m5) ((y7_m34).trans y7_m5) (show m34.1 12 = m.1 12 by omega) rY
  have hHn := HY_mv (show m34.1 22 = m.1 22 by omega) ((y32_m34).trans y32_m5) ((y33_m34).trans y33_m5) ((y73_m34).trans y73_m5) rH
  have hVn := DV_mv (show m34.1 7 = m.1 7 by omega) (show m34.1 8 = m.1 8 by omega) ((y4_m34).trans y4_m5) ((y5_m34).trans y5_m5) rV
  have hrl : rl m34 := ⟨by omega, r2n, by omega, by omega, by omega, by omega, by omega, hYn, hHn, hVn⟩
  have hb2 : sl + 64514 + 0 ≤ 267897 + pp (k + 1) ∨ (m34.2.2.1 0 ≠ vE 0 ∧ sl + 64514 + 0 ≤ 267897 + pp (k + 1 + 1)) := by
    rcases hbu.2 with h | ⟨h1, h2⟩
    · left; omega
    · right; refine ⟨?_, by omega⟩
      have u58 : m5.2.2.1 0 ≠ vE 0 := p10.elim (fun e => by rw [e]; exact h1) id
      have u59 : m34.2.2.1 0 ≠ vE 0 := by rw [R_m34]; exact u58
      exact u59
  exact K m34 (cs + 2 + 0) (sl + 64514 + 0) ⟨hm40, t56, t57, p37, p38, p39, hrl⟩ ⟨by omega, hb2⟩
theorem w_14 {V : cg_V} (hL : V.2.2.2.1 ≤ 256) {m : kM} {i : Int} {cs sl k : Nat} (hiv : iv m) (hbu : bu cs sl k m) (hk : k ≤ 63) (hi : 0 ≤ i ∧ i + 4 ≤ ((V.2.2.2.1 : Nat) : Int)) (K : ∀ (m' : kM) (cs' sl' : Nat), iv m' → bu cs' sl' (k + 1) m' → cg_G V mL_law 11 406 (fun r => ∃ w9, r = (some (vI 1), w9)) 756 [(3, vI i), (2, vR 61), (1, vR 0), (0, vE 1)] [] (kl m') cs' sl') : cg_G V mL_law 11 406 (fun r => ∃ w9, r = (some (vI 1), w9)) 536 [(3, vI i), (2, vR 61), (1, vR 0), (0, vE 1)] [] (kl m) cs sl := by
  obtain ⟨i_I, i_W, i_P, i_4, i_D, i_K, r3, r2, r7, r8, r10, r22, r0, rY, rH, rV⟩ := hiv
  have b1 := hbu.1
  have pp1 := pp_s k
  have pp2 := pp_s (k + 1)
  have pp3 := pp_le (show k + 1 ≤ 64 by omega)
  have b2 : sl ≤ 267897 + pp (k + 1) := by rcases hbu.2 with h | h <;> omega
  refine g_aload_n (n := 1) rfl rfl ?_
  refine g_aload_n (n := 0) rfl rfl ?_
  refine g_iload_n (n := 3) rfl rfl ?_
  refine g_iconst rfl ?_
  refine g_iadd rfl ?_
  refine g_xld (by omega) (by omega) hL (show decode cL_law 541 = .ok (.iaload, 1) by decide +kernel) ?_
  have h1 := sx_rng V (i + 1)
  refine c_vI (i := 0) (ps := [vI (sx V (i + 1))]) (r := []) (as := [vR 0, vI (sx V (i + 1))]) (cs' := cs + 0) (sl' := sl + 0) rfl rfl rfl rfl rfl rfl (kl_0 _) (c_row (d := 11 - 1) (q := 406 - (2 + 19)) (by decide) (by decide) i_I (c := (sx V (i + 1))) (show (-2147483648) ≤ (sx V (i + 1)) ∧ (sx V (i + 1)) ≤ 2147483647 by omega)) (by decide) (show 2 + 19 ≤ 406 by decide) (Nat.le_trans (show cs + 0 ≤ 600000 by omega) (Nat.le_of_eq lw_mc.symm)) (Nat.le_trans (show sl + 0 ≤ 7302250 by omega) (Nat.le_of_eq lw_ms.symm)) rfl rfl rfl ?_
  rintro z2 m3 ⟨hm5, hf6, p4⟩
  have h7 : m3.1 3 = m.1 3 := hf6.1 3 rfl
  have h8 : m3.1 7 = m.1 7 := hf6.1 7 rfl
  have h9 : m3.1 8 = m.1 8 := hf6.1 8 rfl
  have h10 : m3.1 10 = m.1 10 := hf6.1 10 rfl
  have h11 : m3.1 12 = m.1 12 := hf6.1 12 rfl
  have h12 : m3.1 22 = m.1 22 := hf6.1 22 rfl
  have h13 : m3.1 23 = m.1 23 := hf6.1 23 rfl
  have h14 : m3.1 25 = m.1 25 := hf6.1 25 rfl
  have h15 : m3.1 26 = m.1 26 := hf6.1 26 rfl
  have h16 : m3.1 28 = m.1 28 := hf6.1 28 rfl
  have h17 : m3.1 30 = m.1 30 := hf6.1 30 rfl
  have h18 : m3.1 38 = m.1 38 := hf6.1 38 rfl
  have h19 : m3.1 39 = m.1 39 := hf6.1 39 rfl
  have y2_m3 : m3.2.1 2 = m.2.1 2 := hf6.2.1 2 rfl
  have y64_m3 : m3.2.1 64 = m.2.1 64 := hf6.2.1 64 rfl
  have y4_m3 : m3.2.1 4 = m.2.1 4 := hf6.2.1 4 rfl
  have y5_m3 : m3.2.1 5 = m.2.1 5 := hf6.2.1 5 rfl
  have y6_m3 : m3.2.1 6 = m.2.1 6 := hf6.2.1 6 rfl
  have y7_m3 : m3.2.1 7 = m.2.1 7 := hf6.2.1 7 rfl
  have y66_m3 : m3.2.1 66 = m.2.1 66 := hf6.2.1 66 rfl
  have y32_m3 : m3.2.1 32 = m.2.1 32 := hf6.2.1 32 rfl
  have y33_m3 : m3.2.1 33 = m.2.1 33 := hf6.2.1 33 rfl
  have y73_m3 : m3.2.1 73 = m.2.1 73 := hf6.2.1 73 rfl
  have t20 : kW m3 := kW_of (hf6.2.1 18 rfl) i_W
  have t21 : kP m3 := kP_fr hf6 rfl rfl i_P
  have t22 : k4 m3 := k4_of (hf6.1 28 rfl) i_4
  have t23 : kD m3 := kD_of (hf6.1 26 rfl) (hf6.2.1 66 rfl) i_D
  have t24 : kK m3 := kK_same (hf6.1 28 rfl) (hf6.2.1 62 rfl) (hf6.2.1 63 rfl) i_K
  have R_m3 : m3.2.2.1 0 = m.2.2.1 0 := by rw [hf6.2.2]
  refine g_pop rfl rfl ?_
  refine g_aload_n (n := 2) rfl rfl ?_
  refine g_aload_n (n := 0) rfl rfl ?_
  refine g_iload_n (n := 3) rfl rfl ?_
  refine g_iconst rfl ?_
  refine g_iadd rfl ?_
  refine g_xld (by omega) (by omega) hL (show decode cL_law 551 = .ok (.iaload, 1) by decide +kernel) ?_
  have h25 := sx_rng V (i + 1)
  refine c_vI (i := 61) (ps := [vI (sx V (i + 1))]) (r := []) (as := [vR 61, vI (sx V (i + 1))]) (cs' := cs + 0 + 0) (sl' := sl + 0 + 0) rfl rfl rfl rfl rfl rfl (kl_61 _) (d_row (d := 11 - 1) (q := 406 - (2 + 19)) (by decide) (by decide) hm5 (c := (sx V (i + 1))) (show (-2147483648) ≤ (sx V (i + 1)) ∧ (sx V (i + 1)) ≤ 2147483647 by omega)) (by decide) (show 2 + 19 ≤ 406 by decide) (Nat.le_trans (show cs + 0 + 0 ≤ 600000 by omega) (Nat.le_of_eq lw_mc.symm)) (Nat.le_trans (show sl + 0 + 0 ≤ 7302250 by omega) (Nat.le_of_eq lw_ms.symm)) rfl rfl rfl ?_
  rintro z26 m27 ⟨hm29, hf30, p28⟩
  have h31 : m27.1 0 = m3.1 0 := hf30.1 0 rfl
  have h32 : m27.1 3 = m3.1 3 := hf30.1 3 rfl
  have h33 : m27.1 7 = m3.1 7 := hf30.1 7 rfl
  have h34 : m27.1 8 = m3.1 8 := hf30.1 8 rfl
  have h35 : m27.1 10 = m3.1 10 := hf30.1 10 rfl
  have h36 : m27.1 12 = m3.1 12 := hf30.1 12 rfl
  have h37 : m27.1 22 = m3.1 22 := hf30.1 22 rfl
  have h38 : m27.1 23 = m3.1 23 := hf30.1 23 rfl
  have h39 : m27.1 25 = m3.1 25 := hf30.1 25 rfl
  have h40 : m27.1 26 = m3.1 26 := hf30.1 26 rfl
  have h41 : m27.1 28 = m3.1 28 := hf30.1 28 rfl
  have h42 : m27.1 30 = m3.1 30 := hf30.1 30 rfl
  have h43 : m27.1 39 = m3.1 39 := hf30.1 39 rfl
  have y2_m27 : m27.2.1 2 = m3.2.1 2 := hf30.2.1 2 rfl
  have y64_m27 : m27.2.1 64 = m3.2.1 64 := hf30.2.1 64 rfl
  have y4_m27 : m27.2.1 4 = m3.2.1 4 := hf30.2.1 4 rfl
  have y5_m27 : m27.2.1 5 = m3.2.1 5 := hf30.2.1 5 rfl
  have y6_m27 : m27.2.1 6 = m3.2.1 6 := hf30.2.1 6 rfl
  have y7_m27 : m27.2.1 7 = m3.2.1 7 := hf30.2.1 7 rfl
  have y66_m27 : m27.2.1 66 = m3.2.1 66 := hf30.2.1 66 rfl
  have y32_m27 : m27.2.1 32 = m3.2.1 32 := hf30.2.1 32 rfl
  have y33_m27 : m27.2.1 33 = m3.2.1 33 := hf30.2.1 33 rfl
  have y73_m27 : m27.2.1 73 = m3.2.1 73 := hf30.2.1 73 rfl
  have t44 : kW m27 := kW_of (hf30.2.1 18 rfl) t20
  have t45 : kP m27 := kP_fr hf30 rfl rfl t21
  have t46 : k4 m27 := k4_of (hf30.1 28 rfl) t22
  have t47 : kD m27 := kD_of (hf30.1 26 rfl) (hf30.2.1 66 rfl) t23
  have t48 : kK m27 := kK_same (hf30.1 28 rfl) (hf30.2.1 62 rfl) (hf30.2.1 63 rfl) t24
  have R_m27 : m27.2.2.1 0 = m3.2.2.1 0 := by rw [hf30.2.2]
  refine g_pop rfl rfl ?_
  refine g_goto rfl ?_
  have r2n : m27.2.1 2 = m27.2.1 64 := by rw [y2_m27, y2_m3, y64_m27, y64_m3, r2]
  have hYn := DY_mv (show m27.1 26 = m.1 26 by omega) ((y66_m27).trans y66_m3) (show m27.1 30 = m.1 30 by omega) ((y4_m27).trans y4_m3) ((y5_m27).trans y5_m3) ((y6_m27).trans y6_m3) ((y7_m27).trans y7_m3) (show m27.1 12 = m.1 12 by omega) rY
  have hHn := HY_mv (show m27.1 22 = m.1 22 by omega) ((y32_m27).trans y32_m3) ((y33_m27).trans y33_m3) ((y73_m27).trans y73_m3) rH
  have hVn := DV_mv (show m27.1 7 = m.1 7 by omega) (show m27.1 8 = m.1 8 by omega) ((y4_m27).trans y4_m3) ((y5_m27).trans y5_m3) rV
  have hrl : rl m27 := ⟨by omega, r2n, by omega, by omega, by omega, by omega, by omega, hYn, hHn, hVn⟩
  have hb2 : sl + 0 + 0 ≤ 267897 + pp (k + 1) ∨ (m27.2.2.1 0 ≠ vE 0 ∧ sl + 0 + 0 ≤ 267897 + pp (k + 1 + 1)) := by
    rcases hbu.2 with h | ⟨h1, h2⟩
    · left; omega
    · right; refine ⟨?_, by omega⟩
      have u49 : m3.2.2.1 0 ≠ vE 0 := by rw [R_m3]; exact h1
      have u50 : m27.2.2.1 0 ≠ vE 0 := by rw [R_m27]; exact u49
      exact u50
  exact K m27 (cs + 0 + 0) (sl + 0 + 0) ⟨hm29, t44, t45, t46, t47, t48, hrl⟩ ⟨by omega, hb2⟩
theorem w_15 {V : cg_V} (hL : V.2.2.2.1 ≤ 256) {m : kM} {i : Int} {cs sl k : Nat} (hiv : iv m) (hbu : bu cs sl k m) (hk : k ≤ 63) (hi : 0 ≤ i ∧ i + 4 ≤ ((V.2.2.2.1 : Nat) : Int)) (K : ∀ (m' : kM) (cs' sl' : Nat), iv m' → bu cs' sl' (k + 1) m' → cg_G V mL_law 11 406 (fun r => ∃ w9, r = (some (vI 1), w9)) 756 [(3, vI i), (2, vR 61), (1, vR 0), (0, vE 1)] [] (kl m') cs' sl') : cg_G V mL_law 11 406 (fun r => ∃ w9, r = (some (vI 1), w9)) 559 [(3, vI i), (2, vR 61), (1, vR 0), (0, vE 1)] [] (kl m) cs sl := by
  obtain ⟨i_I, i_W, i_P, i_4, i_D, i_K, r3, r2, r7, r8, r10, r22, r0, rY, rH, rV⟩ := hiv
  have b1 := hbu.1
  have pp1 := pp_s k
  have pp2 := pp_s (k + 1)
  have pp3 := pp_le (show k + 1 ≤ 64 by omega)
  have b2 : sl ≤ 267897 + pp (k + 1) := by rcases hbu.2 with h | h <;> omega
  refine g_aload_n (n := 1) rfl rfl ?_
  refine c_vI (i := 0) (ps := []) (r := []) (as := [vR 0]) (cs' := cs + 0) (sl' := sl + 0) rfl rfl rfl rfl rfl rfl (kl_0 _) (c_burn (d := 11 - 1) (q := 406 - (2 + 19)) (by decide) (by decide) i_I  ) (by decide) (show 2 + 19 ≤ 406 by decide) (Nat.le_trans (show cs + 0 ≤ 600000 by omega) (Nat.le_of_eq lw_mc.symm)) (Nat.le_trans (show sl + 0 ≤ 7302250 by omega) (Nat.le_of_eq lw_ms.symm)) rfl rfl rfl ?_
  rintro z1 m2 ⟨hm5, hf6, p3, p4⟩
  have h7 : m2.1 3 = m.1 3 := hf6.1 3 rfl
  have h8 : m2.1 7 = m.1 7 := hf6.1 7 rfl
  have h9 : m2.1 8 = m.1 8 := hf6.1 8 rfl
  have h10 : m2.1 10 = m.1 10 := hf6.1 10 rfl
  have h11 : m2.1 12 = m.1 12 := hf6.1 12 rfl
  have h12 : m2.1 22 = m.1 22 := hf6.1 22 rfl
  have h13 : m2.1 23 = m.1 23 := hf6.1 23 rfl
  have h14 : m2.1 25 = m.1 25 := hf6.1 25 rfl
  have h15 : m2.1 26 = m.1 26 := hf6.1 26 rfl
  have h16 : m2.1 28 = m.1 28 := hf6.1 28 rfl
  have h17 : m2.1 30 = m.1 30 := hf6.1 30 rfl
  have h18 : m2.1 38 = m.1 38 := hf6.1 38 rfl
  have h19 : m2.1 39 = m.1 39 := hf6.1 39 rfl
  have y2_m2 : m2.2.1 2 = m.2.1 2 := hf6.2.1 2 rfl
  have y64_m2 : m2.2.1 64 = m.2.1 64 := hf6.2.1 64 rfl
  have y4_m2 : m2.2.1 4 = m.2.1 4 := hf6.2.1 4 rfl
  have y5_m2 : m2.2.1 5 = m.2.1 5 := hf6.2.1 5 rfl
  have y6_m2 : m2.2.1 6 = m.2.1 6 := hf6.2.1 6 rfl
  have y7_m2 : m2.2.1 7 = m.2.1 7 := hf6.2.1 7 rfl
  have y66_m2 : m2.2.1 66 = m.2.1 66 := hf6.2.1 66 rfl
  have y32_m2 : m2.2.1 32 = m.2.1 32 := hf6.2.1 32 rfl
  have y33_m2 : m2.2.1 33 = m.2.1 33 := hf6.2.1 33 rfl
  have y73_m2 : m2.2.1 73 = m.2.1 73 := hf6.2.1 73 rfl
  have t20 : kW m2 := kW_of (hf6.2.1 18 rfl) i_W
  have t21 : kP m2 := kP_fr hf6 rfl rfl i_P
  have t22 : k4 m2 := k4_of (hf6.1 28 rfl) i_4
  have t23 : kD m2 := kD_of (hf6.1 26 rfl) (hf6.2.1 66 rfl) i_D
  have t24 : kK m2 := kK_same (hf6.1 28 rfl) (hf6.2.1 62 rfl) (hf6.2.1 63 rfl) i_K
  have R_m2 : m2.2.2.1 0 = m.2.2.1 0 := by rw [hf6.2.2]
  refine g_pop rfl rfl ?_
  refine g_aload_n (n := 2) rfl rfl ?_
  refine c_vI (i := 61) (ps := []) (r := []) (as := [vR 61]) (cs' := cs + 0 + 0) (sl' := sl + 0 + 0) rfl rfl rfl rfl rfl rfl (kl_61 _) (d_burn (d := 11 - 1) (q := 406 - (2 + 19)) (by decide) (by decide) hm5  ) (by decide) (show 2 + 19 ≤ 406 by decide) (Nat.le_trans (show cs + 0 + 0 ≤ 600000 by omega) (Nat.le_of_eq lw_mc.symm)) (Nat.le_trans (show sl + 0 + 0 ≤ 7302250 by omega) (Nat.le_of_eq lw_ms.symm)) rfl rfl rfl ?_
  rintro z25 m26 ⟨hm29, hf30, p27, p28⟩
  have h31 : m26.1 0 = m2.1 0 := hf30.1 0 rfl
  have h32 : m26.1 3 = m2.1 3 := hf30.1 3 rfl
  have h33 : m26.1 7 = m2.1 7 := hf30.1 7 rfl
  have h34 : m26.1 8 = m2.1 8 := hf30.1 8 rfl
  have h35 : m26.1 10 = m2.1 10 := hf30.1 10 rfl
  have h36 : m26.1 12 = m2.1 12 := hf30.1 12 rfl
  have h37 : m26.1 22 = m2.1 22 := hf30.1 22 rfl
  have h38 : m26.1 23 = m2.1 23 := hf30.1 23 rfl
  have h39 : m26.1 25 = m2.1 25 := hf30.1 25 rfl
  have h40 : m26.1 26 = m2.1 26 := hf30.1 26 rfl
  have h41 : m26.1 28 = m2.1 28 := hf30.1 28 rfl
  have h42 : m26.1 30 = m2.1 30 := hf30.1 30 rfl
  have h43 : m26.1 39 = m2.1 39 := hf30.1 39 rfl
  have y2_m26 : m26.2.1 2 = m2.2.1 2 := hf30.2.1 2 rfl
  have y64_m26 : m26.2.1 64 = m2.2.1 64 := hf30.2.1 64 rfl
  have y4_m26 : m26.2.1 4 = m2.2.1 4 := hf30.2.1 4 rfl
  have y5_m26 : m26.2.1 5 = m2.2.1 5 := hf30.2.1 5 rfl
  have y6_m26 : m26.2.1 6 = m2.2.1 6 := hf30.2.1 6 rfl
  have y7_m26 : m26.2.1 7 = m2.2.1 7 := hf30.2.1 7 rfl
  have y66_m26 : m26.2.1 66 = m2.2.1 66 := hf30.2.1 66 rfl
  have y32_m26 : m26.2.1 32 = m2.2.1 32 := hf30.2.1 32 rfl
  have y33_m26 : m26.2.1 33 = m2.2.1 33 := hf30.2.1 33 rfl
  have y73_m26 : m26.2.1 73 = m2.2.1 73 := hf30.2.1 73 rfl
  have t44 : kW m26 := kW_of (hf30.2.1 18 rfl) t20
  have t45 : kP m26 := kP_fr hf30 rfl rfl t21
  have t46 : k4 m26 := k4_of (hf30.1 28 rfl) t22
  have t47 : kD m26 := kD_of (hf30.1 26 rfl) (hf30.2.1 66 rfl) t23
  have t48 : kK m26 := kK_same (hf30.1 28 rfl) (hf30.2.1 62 rfl) (hf30.2.1 63 rfl) t24
  have R_m26 : m26.2.2.1 0 = m2.2.2.1 0 := by rw [hf30.2.2]
  refine g_pop rfl rfl ?_
  refine g_goto rfl ?_
  have r2n : m26.2.1 2 = m26.2.1 64 := by rw [y2_m26, y2_m2, y64_m26, y64_m2, r2]
  have hYn := DY_mv (show m26.1 26 = m.1 26 by omega) ((y66_m26).trans y66_m2) (show m26.1 30 = m.1 30 by omega) ((y4_m26).trans y4_m2) ((y5_m26).trans y5_m2) ((y6_m26).trans y6_m2) ((y7_m26).trans y7_m2) (show m26.1 12 = m.1 12 by omega) rY
  have hHn := HY_mv (show m26.1 22 = m.1 22 by omega) ((y32_m26).trans y32_m2) ((y33_m26).trans y33_m2) ((y73_m26).trans y73_m2) rH
  have hVn := DV_mv (show m26.1 7 = m.1 7 by omega) (show m26.1 8 = m.1 8 by omega) ((y4_m26).trans y4_m2) ((y5_m26).trans y5_m2) rV
  have hrl : rl m26 := ⟨by omega, r2n, by omega, by omega, by omega, by omega, by omega, hYn, hHn, hVn⟩
  have hb2 : sl + 0 + 0 ≤ 267897 + pp (k + 1) ∨ (m26.2.2.1 0 ≠ vE 0 ∧ sl + 0 + 0 ≤ 267897 + pp (k + 1 + 1)) := by
    rcases hbu.2 with h | ⟨h1, h2⟩
    · left; omega
    · right; refine ⟨?_, by omega⟩
      have u49 : m2.2.2.1 0 ≠ vE 0 := by rw [R_m2]; exact h1
      have u50 : m26.2.2.1 0 ≠ vE 0 := by rw [R_m26]; exact u49
      exact u50
  exact K m26 (cs + 0 + 0) (sl + 0 + 0) ⟨hm29, t44, t45, t46, t47, t48, hrl⟩ ⟨by omega, hb2⟩
theorem w_16 {V : cg_V} (hL : V.2.2.2.1 ≤ 256) {m : kM} {i : Int} {cs sl k : Nat} (hiv : iv m) (hbu : bu cs sl k m) (hk : k ≤ 63) (hi : 0 ≤ i ∧ i + 4 ≤ ((V.2.2.2.1 : Nat) : Int)) (K : ∀ (m' : kM) (cs' sl' : Nat), iv m' → bu cs' sl' (k + 1) m' → cg_G V mL_law 11 406 (fun r => ∃ w9, r = (some (vI 1), w9)) 756 [(3, vI i), (2, vR 61), (1, vR 0), (0, vE 1)] [] (kl m') cs' sl') : cg_G V mL_law 11 406 (fun r => ∃ w9, r = (some (vI 1), w9)) 572 [(3, vI i), (2, vR 61), (1, vR 0), (0, vE 1)] [] (kl m) cs sl := by
  obtain ⟨i_I, i_W, i_P, i_4, i_D, i_K, r3, r2, r7, r8, r10, r22, r0, rY, rH, rV⟩ := hiv
  have b1 := hbu.1
  have pp1 := pp_s k
  have pp2 := pp_s (k + 1)
  have pp3 := pp_le (show k + 1 ≤ 64 by omega)
  have b2 : sl ≤ 267897 + pp (k + 1) := by rcases hbu.2 with h | h <;> omega
  refine g_aload_n (n := 1) rfl rfl ?_
  refine c_vI (i := 0) (ps := []) (r := []) (as := [vR 0]) (cs' := cs + 0) (sl' := sl + 0) rfl rfl rfl rfl rfl rfl (kl_0 _) (c_judge (d := 11 - 1) (q := 406 - (3 + 19)) (by decide) (by decide) i_I  ) (by decide) (show 3 + 19 ≤ 406 by decide) (Nat.le_trans (show cs + 0 ≤ 600000 by omega) (Nat.le_of_eq lw_mc.symm)) (Nat.le_trans (show sl + 0 ≤ 7302250 by omega) (Nat.le_of_eq lw_ms.symm)) rfl rfl rfl ?_
  rintro z1 m2 ⟨rfl, p3, p4⟩
  refine g_pop rfl rfl ?_
  refine g_aload_n (n := 2) rfl rfl ?_
  refine c_vI (i := 61) (ps := []) (r := []) (as := [vR 61]) (cs' := cs + 0 + 0) (sl' := sl + 0 + 0) rfl rfl rfl rfl rfl rfl (kl_61 _) (d_judge (d := 11 - 1) (q := 406 - (2 + 19)) (by decide) (by decide) i_I  i_4 i_D i_K) (by decide) (show 2 + 19 ≤ 406 by decide) (Nat.le_trans (show cs + 0 + 0 ≤ 600000 by omega) (Nat.le_of_eq lw_mc.symm)) (Nat.le_trans (show sl + 0 + 0 ≤ 7302250 by omega) (Nat.le_of_eq lw_ms.symm)) rfl rfl rfl ?_
  rintro z5 m6 ⟨hm12, hf13, p7, p8, p9, p10, p11⟩
  have h14 : m6.1 0 = m.1 0 := hf13.1 0 rfl
  have h15 : m6.1 3 = m.1 3 := hf13.1 3 rfl
  have h16 : m6.1 7 = m.1 7 := hf13.1 7 rfl
  have h17 : m6.1 8 = m.1 8 := hf13.1 8 rfl
  have h18 : m6.1 10 = m.1 10 := hf13.1 10 rfl
  have h19 : m6.1 12 = m.1 12 := hf13.1 12 rfl
  have h20 : m6.1 22 = m.1 22 := hf13.1 22 rfl
  have h21 : m6.1 23 = m.1 23 := hf13.1 23 rfl
  have h22 : m6.1 25 = m.1 25 := hf13.1 25 rfl
  have h23 : m6.1 26 = m.1 26 := hf13.1 26 rfl
  have h24 : m6.1 28 = m.1 28 := hf13.1 28 rfl
  have h25 : m6.1 30 = m.1 30 := hf13.1 30 rfl
  have h26 : m6.1 38 = m.1 38 := hf13.1 38 rfl
  have h27 : m6.1 39 = m.1 39 := hf13.1 39 rfl
  have y2_m6 : m6.2.1 2 = m.2.1 2 := hf13.2.1 2 rfl
  have y64_m6 : m6.2.1 64 = m.2.1 64 := hf13.2.1 64 rfl
  have y4_m6 : m6.2.1 4 = m.2.1 4 := hf13.2.1 4 rfl
  have y5_m6 : m6.2.1 5 = m.2.1 5 := hf13.2.1 5 rfl
  have y6_m6 : m6.2.1 6 = m.2.1 6 := hf13.2.1 6 rfl
  have y7_m6 : m6.2.1 7 = m.2.1 7 := hf13.2.1 7 rfl
  have y66_m6 : m6.2.1 66 = m.2.1 66 := hf13.2.1 66 rfl
  have y32_m6 : m6.2.1 32 = m.2.1 32 := hf13.2.1 32 rfl
  have y33_m6 : m6.2.1 33 = m.2.1 33 := hf13.2.1 33 rfl
  have y73_m6 : m6.2.1 73 = m.2.1 73 := hf13.2.1 73 rfl
  have t28 : kW m6 := kW_of (hf13.2.1 18 rfl) i_W
  have t29 : kP m6 := kP_fr hf13 rfl rfl i_P
  have R_m6 : m6.2.2.1 0 = m.2.2.1 0 := by rw [hf13.2.2]
  refine g_pop rfl rfl ?_
  refine g_goto rfl ?_
  have r2n : m6.2.1 2 = m6.2.1 64 := by rw [y2_m6, y64_m6, r2]
  have hYn := DY_mv (show m6.1 26 = m.1 26 by omega) y66_m6 (show m6.1 30 = m.1 30 by omega) y4_m6 y5_m6 y6_m6 y7_m6 (show m6.1 12 = m.1 12 by omega) rY
  have hHn := HY_mv (show m6.1 22 = m.1 22 by omega) y32_m6 y33_m6 y73_m6 rH
  have hVn := DV_mv (show m6.1 7 = m.1 7 by omega) (show m6.1 8 = m.1 8 by omega) y4_m6 y5_m6 rV
  have hrl : rl m6 := ⟨by omega, r2n, by omega, by omega, by omega, by omega, by omega, hYn, hHn, hVn⟩
  have hb2 : sl + 0 + 0 ≤ 267897 + pp (k + 1) ∨ (m6.2.2.1 0 ≠ vE 0 ∧ sl + 0 + 0 ≤ 267897 + pp (k + 1 + 1)) := by
    rcases hbu.2 with h | ⟨h1, h2⟩
    · left; omega
    · right; refine ⟨?_, by omega⟩
      have u30 : m6.2.2.1 0 ≠ vE 0 := by rw [R_m6]; exact h1
      exact u30
  exact K m6 (cs + 0 + 0) (sl + 0 + 0) ⟨hm12, t28, t29, p9, p10, p11, hrl⟩ ⟨by omega, hb2⟩
theorem w_17 {V : cg_V} (hL : V.2.2.2.1 ≤ 256) {m : kM} {i : Int} {cs sl k : Nat} (hiv : iv m) (hbu : bu cs sl k m) (hk : k ≤ 63) (hi : 0 ≤ i ∧ i + 4 ≤ ((V.2.2.2.1 : Nat) : Int)) (K : ∀ (m' : kM) (cs' sl' : Nat), iv m' → bu cs' sl' (k + 1) m' → cg_G V mL_law 11 406 (fun r => ∃ w9, r = (some (vI 1), w9)) 756 [(3, vI i), (2, vR 61), (1, vR 0), (0, vE 1)] [] (kl m') cs' sl') : cg_G V mL_law 11 406 (fun r => ∃ w9, r = (some (vI 1), w9)) 585 [(3, vI i), (2, vR 61), (1, vR 0), (0, vE 1)] [] (kl m) cs sl := by
  obtain ⟨i_I, i_W, i_P, i_4, i_D, i_K, r3, r2, r7, r8, r10, r22, r0, rY, rH, rV⟩ := hiv
  have b1 := hbu.1
  have pp1 := pp_s k
  have pp2 := pp_s (k + 1)
  have pp3 := pp_le (show k + 1 ≤ 64 by omega)
  have b2 : sl ≤ 267897 + pp (k + 1) := by rcases hbu.2 with h | h <;> omega
  refine g_aload_n (n := 1) rfl rfl ?_
  refine g_aload_n (n := 0) rfl rfl ?_
  refine g_iload_n (n := 3) rfl rfl ?_
  refine g_iconst rfl ?_
  refine g_iadd rfl ?_
  refine g_xld (by omega) (by omega) hL (show decode cL_law 590 = .ok (.iaload, 1) by decide +kernel) ?_
  have h1 := sx_rng V (i + 1)
  refine g_aload_n (n := 0) rfl rfl ?_
  refine g_iload_n (n := 3) rfl rfl ?_
  refine g_iconst rfl ?_
  refine g_iadd rfl ?_
  refine g_xld (by omega) (by omega) hL (show decode cL_law 595 = .ok (.iaload, 1) by decide +kernel) ?_
  have h2 := sx_rng V (i + 2)
  refine c_vI (i := 0) (ps := [vI (sx V (i + 2)), vI (sx V (i + 1))]) (r := []) (as := [vR 0, vI (sx V (i + 1)), vI (sx V (i + 2))]) (cs' := cs + 0) (sl' := sl + 0) rfl rfl rfl rfl rfl rfl (kl_0 _) (c_heard (d := 11 - 1) (q := 406 - (3 + 19)) (by decide) (by decide) i_I (t := (sx V (i + 1))) (a := (sx V (i + 2))) (show (-2147483648) ≤ (sx V (i + 1)) ∧ (sx V (i + 1)) ≤ 2147483647 by omega) (show (-2147483648) ≤ (sx V (i + 2)) ∧ (sx V (i + 2)) ≤ 2147483647 by omega)) (by decide) (show 3 + 19 ≤ 406 by decide) (Nat.le_trans (show cs + 0 ≤ 600000 by omega) (Nat.le_of_eq lw_mc.symm)) (Nat.le_trans (show sl + 0 ≤ 7302250 by omega) (Nat.le_of_eq lw_ms.symm)) rfl rfl rfl ?_
  rintro z3 m4 ⟨hm7, hf8, p5, p6⟩
  have h9 : m4.1 0 = m.1 0 := hf8.1 0 rfl
  have h10 : m4.1 3 = m.1 3 := hf8.1 3 rfl
  have h11 : m4.1 7 = m.1 7 := hf8.1 7 rfl
  have h12 : m4.1 8 = m.1 8 := hf8.1 8 rfl
  have h13 : m4.1 10 = m.1 10 := hf8.1 10 rfl
  have h14 : m4.1 12 = m.1 12 := hf8.1 12 rfl
  have h15 : m4.1 23 = m.1 23 := hf8.1 23 rfl
  have h16 : m4.1 25 = m.1 25 := hf8.1 25 rfl
  have h17 : m4.1 26 = m.1 26 := hf8.1 26 rfl
  have h18 : m4.1 28 = m.1 28 := hf8.1 28 rfl
  have h19 : m4.1 30 = m.1 30 := hf8.1 30 rfl
  have h20 : m4.1 38 = m.1 38 := hf8.1 38 rfl
  have h21 : m4.1 39 = m.1 39 := hf8.1 39 rfl
  have y2_m4 : m4.2.1 2 = m.2.1 2 := hf8.2.1 2 rfl
  have y64_m4 : m4.2.1 64 = m.2.1 64 := hf8.2.1 64 rfl
  have y4_m4 : m4.2.1 4 = m.2.1 4 := hf8.2.1 4 rfl
  have y5_m4 : m4.2.1 5 = m.2.1 5 := hf8.2.1 5 rfl
  have y6_m4 : m4.2.1 6 = m.2.1 6 := hf8.2.1 6 rfl
  have y7_m4 : m4.2.1 7 = m.2.1 7 := hf8.2.1 7 rfl
  have y66_m4 : m4.2.1 66 = m.2.1 66 := hf8.2.1 66 rfl
  have y73_m4 : m4.2.1 73 = m.2.1 73 := hf8.2.1 73 rfl
  have t22 : kW m4 := kW_of (hf8.2.1 18 rfl) i_W
  have t23 : kP m4 := kP_fr hf8 rfl rfl i_P
  have t24 : k4 m4 := k4_of (hf8.1 28 rfl) i_4
  have t25 : kD m4 := kD_of (hf8.1 26 rfl) (hf8.2.1 66 rfl) i_D
  have t26 : kK m4 := kK_same (hf8.1 28 rfl) (hf8.2.1 62 rfl) (hf8.2.1 63 rfl) i_K
  have R_m4 : m4.2.2.1 0 = m.2.2.1 0 := by rw [hf8.2.2]
  refine g_pop rfl rfl ?_
  refine g_aload_n (n := 2) rfl rfl ?_
  refine g_aload_n (n := 0) rfl rfl ?_
  refine g_iload_n (n := 3) rfl rfl ?_
  refine g_iconst rfl ?_
  refine g_iadd rfl ?_
  refine g_xld (by omega) (by omega) hL (show decode cL_law 605 = .ok (.iaload, 1) by decide +kernel) ?_
  have h27 := sx_rng V (i + 1)
  refine g_aload_n (n := 0) rfl rfl ?_
  refine g_iload_n (n := 3) rfl rfl ?_
  refine g_iconst rfl ?_
  refine g_iadd rfl ?_
  refine g_xld (by omega) (by omega) hL (show decode cL_law 610 = .ok (.iaload, 1) by decide +kernel) ?_
  have h28 := sx_rng V (i + 2)
  refine c_vI (i := 61) (ps := [vI (sx V (i + 2)), vI (sx V (i + 1))]) (r := []) (as := [vR 61, vI (sx V (i + 1)), vI (sx V (i + 2))]) (cs' := cs + 0 + 0) (sl' := sl + 0 + 0) rfl rfl rfl rfl rfl rfl (kl_61 _) (d_heard (d := 11 - 1) (q := 406 - (3 + 19)) (by decide) (by decide) hm7 (t := (sx V (i + 1))) (a := (sx V (i + 2))) (show (-2147483648) ≤ (sx V (i + 1)) ∧ (sx V (i + 1)) ≤ 2147483647 by omega) (show (-2147483648) ≤ (sx V (i + 2)) ∧ (sx V (i + 2)) ≤ 2147483647 by omega)) (by decide) (show 3 + 19 ≤ 406 by decide) (Nat.le_trans (show cs + 0 + 0 ≤ 600000 by omega) (Nat.le_of_eq lw_mc.symm)) (Nat.le_trans (show sl + 0 + 0 ≤ 7302250 by omega) (Nat.le_of_eq lw_ms.symm)) rfl rfl rfl ?_
  rintro z29 m30 ⟨hm33, hf34, p31, p32⟩
  have h35 : m30.1 0 = m4.1 0 := hf34.1 0 rfl
  have h36 : m30.1 3 = m4.1 3 := hf34.1 3 rfl
  have h37 : m30.1 7 = m4.1 7 := hf34.1 7 rfl
  have h38 : m30.1 8 = m4.1 8 := hf34.1 8 rfl
  have h39 : m30.1 10 = m4.1 10 := hf34.1 10 rfl
  have h40 : m30.1 12 = m4.1 12 := hf34.1 12 rfl
  have h41 : m30.1 22 = m4.1 22 := hf34.1 22 rfl
  have h42 : m30.1 23 = m4.1 23 := hf34.1 23 rfl
  have h43 : m30.1 25 = m4.1 25 := hf34.1 25 rfl
  have h44 : m30.1 26 = m4.1 26 := hf34.1 26 rfl
  have h45 : m30.1 28 = m4.1 28 := hf34.1 28 rfl
  have h46 : m30.1 30 = m4.1 30 := hf34.1 30 rfl
  have h47 : m30.1 38 = m4.1 38 := hf34.1 38 rfl
  have y2_m30 : m30.2.1 2 = m4.2.1 2 := hf34.2.1 2 rfl
  have y64_m30 : m30.2.1 64 = m4.2.1 64 := hf34.2.1 64 rfl
  have y4_m30 : m30.2.1 4 = m4.2.1 4 := hf34.2.1 4 rfl
  have y5_m30 : m30.2.1 5 = m4.2.1 5 := hf34.2.1 5 rfl
  have y6_m30 : m30.2.1 6 = m4.2.1 6 := hf34.2.1 6 rfl
  have y7_m30 : m30.2.1 7 = m4.2.1 7 := hf34.2.1 7 rfl
  have y66_m30 : m30.2.1 66 = m4.2.1 66 := hf34.2.1 66 rfl
  have y32_m30 : m30.2.1 32 = m4.2.1 32 := hf34.2.1 32 rfl
  have y33_m30 : m30.2.1 33 = m4.2.1 33 := hf34.2.1 33 rfl
  have t48 : kW m30 := kW_of (hf34.2.1 18 rfl) t22
  have t49 : kP m30 := kP_fr hf34 rfl rfl t23
  have t50 : k4 m30 := k4_of (hf34.1 28 rfl) t24
  have t51 : kD m30 := kD_of (hf34.1 26 rfl) (hf34.2.1 66 rfl) t25
  have t52 : kK m30 := kK_same (hf34.1 28 rfl) (hf34.2.1 62 rfl) (hf34.2.1 63 rfl) t26
  have R_m30 : m30.2.2.1 0 = m4.2.2.1 0 := by rw [hf34.2.2]
  refine g_pop rfl rfl ?_
  refine g_goto rfl ?_
  have r2n : m30.2.1 2 = m30.2.1 64 := by rw [y2_m30, y2_m4, y64_m30, y64_m4, r2]
  have hYn := DY_mv (show m30.1 26 = m.1 26 by omega) ((y66_m30).trans y66_m4) (show m30.1 30 = m.1 30 by omega) ((y4_m30).trans y4_m4) ((y5_m30).trans y5_m4) ((y6_m30).trans y6_m4) ((y7_m30).trans y7_m4) (show m30.1 12 = m.1 12 by omega) rY
  have hHn : HY m30 := HY_up r22 (show 0 ≤ m.1 22 by have := i_I.1 22; exact this.1) p6 (show m4.1 39 = m.1 39 by omega) y73_m4 p32 (show m30.1 22 = m4.1 22 by omega) y32_m30 y33_m30 (by omega) rH
  have hVn := DV_mv (show m30.1 7 = m.1 7 by omega) (show m30.1 8 = m.1 8 by omega) ((y4_m30).trans y4_m4) ((y5_m30).trans y5_m4) rV
  have hrl : rl m30 := ⟨by omega, r2n, by omega, by omega, by omega, by omega, by omega, hYn, hHn, hVn⟩
  have hb2 : sl + 0 + 0 ≤ 267897 + pp (k + 1) ∨ (m30.2.2.1 0 ≠ vE 0 ∧ sl + 0 + 0 ≤ 267897 + pp (k + 1 + 1)) := by
    rcases hbu.2 with h | ⟨h1, h2⟩
    · left; omega
    · right; refine ⟨?_, by omega⟩
      have u53 : m4.2.2.1 0 ≠ vE 0 := by rw [R_m4]; exact h1
      have u54 : m30.2.2.1 0 ≠ vE 0 := by rw [R_m30]; exact u53
      exact u54
  exact K m30 (cs + 0 + 0) (sl + 0 + 0) ⟨hm33, t48, t49, t50, t51, t52, hrl⟩ ⟨by omega, hb2⟩
theorem w_18 {V : cg_V} (hL : V.2.2.2.1 ≤ 256) {m : kM} {i : Int} {cs sl k : Nat} (hiv : iv m) (hbu : bu cs sl k m) (hk : k ≤ 63) (hi : 0 ≤ i ∧ i + 4 ≤ ((V.2.2.2.1 : Nat) : Int)) (K : ∀ (m' : kM) (cs' sl' : Nat), iv m' → bu cs' sl' (k + 1) m' → cg_G V mL_law 11 406 (fun r => ∃ w9, r = (some (vI 1), w9)) 756 [(3, vI i), (2, vR 61), (1, vR 0), (0, vE 1)] [] (kl m') cs' sl') : cg_G V mL_law 11 406 (fun r => ∃ w9, r = (some (vI 1), w9)) 618 [(3, vI i), (2, vR 61), (1, vR 0), (0, vE 1)] [] (kl m) cs sl := by
  obtain ⟨i_I, i_W, i_P, i_4, i_D, i_K, r3, r2, r7, r8, r10, r22, r0, rY, rH, rV⟩ := hiv
  have b1 := hbu.1
  have pp1 := pp_s k
  have pp2 := pp_s (k + 1)
  have pp3 := pp_le (show k + 1 ≤ 64 by omega)
  have b2 : sl ≤ 267897 + pp (k + 1) := by rcases hbu.2 with h | h <;> omega
  refine g_aload_n (n := 1) rfl rfl ?_
  refine c_vI (i := 0) (ps := []) (r := []) (as := [vR 0]) (cs' := cs + 0) (sl' := sl + 0) rfl rfl rfl rfl rfl rfl (kl_0 _) (c_forget (d := 11 - 1) (q := 406 - (1 + 19)) (by decide) (by decide) i_I  ) (by decide) (show 1 + 19 ≤ 406 by decide) (Nat.le_trans (show cs + 0 ≤ 600000 by omega) (Nat.le_of_eq lw_mc.symm)) (Nat.le_trans (show sl + 0 ≤ 7302250 by omega) (Nat.le_of_eq lw_ms.symm)) rfl rfl rfl ?_
  rintro z1 m2 ⟨hm5, hf6, p3, p4⟩
  have h7 : m2.1 0 = m.1 0 := hf6.1 0 rfl
  have h8 : m2.1 3 = m.1 3 := hf6.1 3 rfl
  have h9 : m2.1 7 = m.1 7 := hf6.1 7 rfl
  have h10 : m2.1 8 = m.1 8 := hf6.1 8 rfl
  have h11 : m2.1 10 = m.1 10 := hf6.1 10 rfl
  have h12 : m2.1 12 = m.1 12 := hf6.1 12 rfl
  have h13 : m2.1 23 = m.1 23 := hf6.1 23 rfl
  have h14 : m2.1 25 = m.1 25 := hf6.1 25 rfl
  have h15 : m2.1 26 = m.1 26 := hf6.1 26 rfl
  have h16 : m2.1 28 = m.1 28 := hf6.1 28 rfl
  have h17 : m2.1 30 = m.1 30 := hf6.1 30 rfl
  have h18 : m2.1 38 = m.1 38 := hf6.1 38 rfl
  have h19 : m2.1 39 = m.1 39 := hf6.1 39 rfl
  have y2_m2 : m2.2.1 2 = m.2.1 2 := hf6.2.1 2 rfl
  have y64_m2 : m2.2.1 64 = m.2.1 64 := hf6.2.1 64 rfl
  have y4_m2 : m2.2.1 4 = m.2.1 4 := hf6.2.1 4 rfl
  have y5_m2 : m2.2.1 5 = m.2.1 5 := hf6.2.1 5 rfl
  have y6_m2 : m2.2.1 6 = m.2.1 6 := hf6.2.1 6 rfl
  have y7_m2 : m2.2.1 7 = m.2.1 7 := hf6.2.1 7 rfl
  have y66_m2 : m2.2.1 66 = m.2.1 66 := hf6.2.1 66 rfl
  have y32_m2 : m2.2.1 32 = m.2.1 32 := hf6.2.1 32 rfl
  have y33_m2 : m2.2.1 33 = m.2.1 33 := hf6.2.1 33 rfl
  have y73_m2 : m2.2.1 73 = m.2.1 73 := hf6.2.1 73 rfl
  have t20 : kW m2 := kW_of (hf6.2.1 18 rfl) i_W
  have t21 : kP m2 := kP_fr hf6 rfl rfl i_P
  have t22 : k4 m2 := k4_of (hf6.1 28 rfl) i_4
  have t23 : kD m2 := kD_of (hf6.1 26 rfl) (hf6.2.1 66 rfl) i_D
  have t24 : kK m2 := kK_same (hf6.1 28 rfl) (hf6.2.1 62 rfl) (hf6.2.1 63 rfl) i_K
  have R_m2 : m2.2.2.1 0 = m.2.2.1 0 := by rw [hf6.2.2]
  refine g_pop rfl rfl ?_
  refine g_aload_n (n := 2) rfl rfl ?_
  refine c_vI (i := 61) (ps := []) (r := []) (as := [vR 61]) (cs' := cs + 0 + 0) (sl' := sl + 0 + 0) rfl rfl rfl rfl rfl rfl (kl_61 _) (d_forget (d := 11 - 1) (q := 406 - (2 + 19)) (by decide) (by decide) hm5  ) (by decide) (show 2 + 19 ≤ 406 by decide) (Nat.le_trans (show cs + 0 + 0 ≤ 600000 by omega) (Nat.le_of_eq lw_mc.symm)) (Nat.le_trans (show sl + 0 + 0 ≤ 7302250 by omega) (Nat.le_of_eq lw_ms.symm)) rfl rfl rfl ?_
  rintro z25 m26 ⟨hm29, hf30, p27, p28⟩
  have h31 : m26.1 0 = m2.1 0 := hf30.1 0 rfl
  have h32 : m26.1 3 = m2.1 3 := hf30.1 3 rfl
  have h33 : m26.1 7 = m2.1 7 := hf30.1 7 rfl
  have h34 : m26.1 8 = m2.1 8 := hf30.1 8 rfl
  have h35 : m26.1 10 = m2.1 10 := hf30.1 10 rfl
  have h36 : m26.1 12 = m2.1 12 := hf30.1 12 rfl
  have h37 : m26.1 22 = m2.1 22 := hf30.1 22 rfl
  have h38 : m26.1 23 = m2.1 23 := hf30.1 23 rfl
  have h39 : m26.1 25 = m2.1 25 := hf30.1 25 rfl
  have h40 : m26.1 26 = m2.1 26 := hf30.1 26 rfl
  have h41 : m26.1 28 = m2.1 28 := hf30.1 28 rfl
  have h42 : m26.1 30 = m2.1 30 := hf30.1 30 rfl
  have h43 : m26.1 38 = m2.1 38 := hf30.1 38 rfl
  have y2_m26 : m26.2.1 2 = m2.2.1 2 := hf30.2.1 2 rfl
  have y64_m26 : m26.2.1 64 = m2.2.1 64 := hf30.2.1 64 rfl
  have y4_m26 : m26.2.1 4 = m2.2.1 4 := hf30.2.1 4 rfl
  have y5_m26 : m26.2.1 5 = m2.2.1 5 := hf30.2.1 5 rfl
  have y6_m26 : m26.2.1 6 = m2.2.1 6 := hf30.2.1 6 rfl
  have y7_m26 : m26.2.1 7 = m2.2.1 7 := hf30.2.1 7 rfl
  have y66_m26 : m26.2.1 66 = m2.2.1 66 := hf30.2.1 66 rfl
  have y32_m26 : m26.2.1 32 = m2.2.1 32 := hf30.2.1 32 rfl
  have y33_m26 : m26.2.1 33 = m2.2.1 33 := hf30.2.1 33 rfl
  have y73_m26 : m26.2.1 73 = m2.2.1 73 := hf30.2.1 73 rfl
  have t44 : kW m26 := kW_of (hf30.2.1 18 rfl) t20
  have t45 : kP m26 := kP_fr hf30 rfl rfl t21
  have t46 : k4 m26 := k4_of (hf30.1 28 rfl) t22
  have t47 : kD m26 := kD_of (hf30.1 26 rfl) (hf30.2.1 66 rfl) t23
  have t48 : kK m26 := kK_same (hf30.1 28 rfl) (hf30.2.1 62 rfl) (hf30.2.1 63 rfl) t24
  have R_m26 : m26.2.2.1 0 = m2.2.2.1 0 := by rw [hf30.2.2]
  refine g_pop rfl rfl ?_
  refine g_goto rfl ?_
  have r2n : m26.2.1 2 = m26.2.1 64 := by rw [y2_m26, y2_m2, y64_m26, y64_m2, r2]
  have hYn := DY_mv (show m26.1 26 = m.1 26 by omega) ((y66_m26).trans y66_m2) (show m26.1 30 = m.1 30 by omega) ((y4_m26).trans y4_m2) ((y5_m26).trans y5_m2) ((y6_m26).trans y6_m2) ((y7_m26).trans y7_m2) (show m26.1 12 = m.1 12 by omega) rY
  have hHn : HY m26 := fun j h0 h1 => by exfalso; omega
  have hVn := DV_mv (show m26.1 7 = m.1 7 by omega) (show m26.1 8 = m.1 8 by omega) ((y4_m26).trans y4_m2) ((y5_m26).trans y5_m2) rV
  have hrl : rl m26 := ⟨by omega, r2n, by omega, by omega, by omega, by omega, by omega, hYn, hHn, hVn⟩
  have hb2 : sl + 0 + 0 ≤ 267897 + pp (k + 1) ∨ (m26.2.2.1 0 ≠ vE 0 ∧ sl + 0 + 0 ≤ 267897 + pp (k + 1 + 1)) := by
    rcases hbu.2 with h | ⟨h1, h2⟩
    · left; omega
    · right; refine ⟨?_, by omega⟩
      have u49 : m2.2.2.1 0 ≠ vE 0 := by rw [R_m2]; exact h1
      have u50 : m26.2.2.1 0 ≠ vE 0 := by rw [R_m26]; exact u49
      exact u50
  exact K m26 (cs + 0 + 0) (sl + 0 + 0) ⟨hm29, t44, t45, t46, t47, t48, hrl⟩ ⟨by omega, hb2⟩
theorem w_19 {V : cg_V} (hL : V.2.2.2.1 ≤ 256) {m : kM} {i : Int} {cs sl k : Nat} (hiv : iv m) (hbu : bu cs sl k m) (hk : k ≤ 63) (hi : 0 ≤ i ∧ i + 4 ≤ ((V.2.2.2.1 : Nat) : Int)) (K : ∀ (m' : kM) (cs' sl' : Nat), iv m' → bu cs' sl' (k + 1) m' → cg_G V mL_law 11 406 (fun r => ∃ w9, r = (some (vI 1), w9)) 756 [(3, vI i), (2, vR 61), (1, vR 0), (0, vE 1)] [] (kl m') cs' sl') : cg_G V mL_law 11 406 (fun r => ∃ w9, r = (some (vI 1), w9)) 631 [(3, vI i), (2, vR 61), (1, vR 0), (0, vE 1)] [] (kl m) cs sl := by
  obtain ⟨i_I, i_W, i_P, i_4, i_D, i_K, r3, r2, r7, r8, r10, r22, r0, rY, rH, rV⟩ := hiv
  have b1 := hbu.1
  have pp1 := pp_s k
  have pp2 := pp_s (k + 1)
  have pp3 := pp_le (show k + 1 ≤ 64 by omega)
  have b2 : sl ≤ 267897 + pp (k + 1) := by rcases hbu.2 with h | h <;> omega
  refine g_aload_n (n := 1) rfl rfl ?_
  refine g_aload_n (n := 0) rfl rfl ?_
  refine g_iload_n (n := 3) rfl rfl ?_
  refine g_iconst rfl ?_
  refine g_iadd rfl ?_
  refine g_xld (by omega) (by omega) hL (show decode cL_law 636 = .ok (.iaload, 1) by decide +kernel) ?_
  have h1 := sx_rng V (i + 1)
  refine g_aload_n (n := 0) rfl rfl ?_
  refine g_iload_n (n := 3) rfl rfl ?_
  refine g_iconst rfl ?_
  refine g_iadd rfl ?_
  refine g_xld (by omega) (by omega) hL (show decode cL_law 641 = .ok (.iaload, 1) by decide +kernel) ?_
  have h2 := sx_rng V (i + 2)
  refine c_vL (i := 0) (ps := [vI (sx V (i + 2)), vI (sx V (i + 1))]) (r := []) (as := [vR 0, vI (sx V (i + 1)), vI (sx V (i + 2))]) (cs' := cs + 0) (sl' := sl + 0) rfl rfl rfl rfl rfl rfl (kl_0 _) (c_night (d := 11 - 1) (q := 406 - (3 + 19)) (by decide) (by decide) i_I (n := (sx V (i + 1))) (w := (sx V (i + 2))) (show (-2147483648) ≤ (sx V (i + 1)) ∧ (sx V (i + 1)) ≤ 2147483647 by omega) (show (-2147483648) ≤ (sx V (i + 2)) ∧ (sx V (i + 2)) ≤ 2147483647 by omega)) (by decide) (show 3 + 19 ≤ 406 by decide) (Nat.le_trans (show cs + 0 ≤ 600000 by omega) (Nat.le_of_eq lw_mc.symm)) (Nat.le_trans (show sl + 0 ≤ 7302250 by omega) (Nat.le_of_eq lw_ms.symm)) rfl rfl rfl ?_
  rintro z3 m4 ⟨hm8, hf9, p5, p6, p7⟩
  have h10 : m4.1 0 = m.1 0 := hf9.1 0 rfl
  have h11 : m4.1 3 = m.1 3 := hf9.1 3 rfl
  have h12 : m4.1 7 = m.1 7 := hf9.1 7 rfl
  have h13 : m4.1 8 = m.1 8 := hf9.1 8 rfl
  have h14 : m4.1 10 = m.1 10 := hf9.1 10 rfl
  have h15 : m4.1 12 = m.1 12 := hf9.1 12 rfl
  have h16 : m4.1 22 = m.1 22 := hf9.1 22 rfl
  have h17 : m4.1 23 = m.1 23 := hf9.1 23 rfl
  have h18 : m4.1 25 = m.1 25 := hf9.1 25 rfl
  have h19 : m4.1 26 = m.1 26 := hf9.1 26 rfl
  have h20 : m4.1 28 = m.1 28 := hf9.1 28 rfl
  have h21 : m4.1 30 = m.1 30 := hf9.1 30 rfl
  have h22 : m4.1 38 = m.1 38 := hf9.1 38 rfl
  have h23 : m4.1 39 = m.1 39 := hf9.1 39 rfl
  have y2_m4 : m4.2.1 2 = m.2.1 2 := hf9.2.1 2 rfl
  have y64_m4 : m4.2.1 64 = m.2.1 64 := hf9.2.1 64 rfl
  have y4_m4 : m4.2.1 4 = m.2.1 4 := hf9.2.1 4 rfl
  have y5_m4 : m4.2.1 5 = m.2.1 5 := hf9.2.1 5 rfl
  have y6_m4 : m4.2.1 6 = m.2.1 6 := hf9.2.1 6 rfl
  have y7_m4 : m4.2.1 7 = m.2.1 7 := hf9.2.1 7 rfl
  have y66_m4 : m4.2.1 66 = m.2.1 66 := hf9.2.1 66 rfl
  have y32_m4 : m4.2.1 32 = m.2.1 32 := hf9.2.1 32 rfl
  have y33_m4 : m4.2.1 33 = m.2.1 33 := hf9.2.1 33 rfl
  have y73_m4 : m4.2.1 73 = m.2.1 73 := hf9.2.1 73 rfl
  have t24 : kW m4 := kW_of (hf9.2.1 18 rfl) i_W
  have t25 : kP m4 := kP_fr hf9 rfl rfl i_P
  have t26 : k4 m4 := k4_of (hf9.1 28 rfl) i_4
  have t27 : kD m4 := kD_of (hf9.1 26 rfl) (hf9.2.1 66 rfl) i_D
  have t28 : kK m4 := kK_same (hf9.1 28 rfl) (hf9.2.1 62 rfl) (hf9.2.1 63 rfl) i_K
  have R_m4 : m4.2.2.1 0 = m.2.2.1 0 := by rw [hf9.2.2]
  refine g_pop2 rfl rfl ?_
  refine g_aload_n (n := 2) rfl rfl ?_
  refine g_aload_n (n := 0) rfl rfl ?_
  refine g_iload_n (n := 3) rfl rfl ?_
  refine g_iconst rfl ?_
  refine g_iadd rfl ?_
  refine g_xld (by omega) (by omega) hL (show decode cL_law 651 = .ok (.iaload, 1) by decide +kernel) ?_
  have h29 := sx_rng V (i + 1)
  refine g_aload_n (n := 0) rfl rfl ?_
  refine g_iload_n (n := 3) rfl rfl ?_
  refine g_iconst rfl ?_
  refine g_iadd rfl ?_
  refine g_xld (by omega) (by omega) hL (show decode cL_law 656 = .ok (.iaload, 1) by decide +kernel) ?_
  have h30 := sx_rng V (i + 2)
  refine c_vL (i := 61) (ps := [vI (sx V (i + 2)), vI (sx V (i + 1))]) (r := []) (as := [vR 61, vI (sx V (i + 1)), vI (sx V (i + 2))]) (cs' := cs + 0 + 0) (sl' := sl + 0 + 0) rfl rfl rfl rfl rfl rfl (kl_61 _) (d_night (d := 11 - 1) (q := 406 - (7 + 19)) (by decide) (by decide) hm8 (n := (sx V (i + 1))) (w := (sx V (i + 2))) (show (-2147483648) ≤ (sx V (i + 1)) ∧ (sx V (i + 1)) ≤ 2147483647 by omega) (show (-2147483648) ≤ (sx V (i + 2)) ∧ (sx V (i + 2)) ≤ 2147483647 by omega) t27) (by decide) (show 7 + 19 ≤ 406 by decide) (Nat.le_trans (show cs + 0 + 0 ≤ 600000 by omega) (Nat.le_of_eq lw_mc.symm)) (Nat.le_trans (show sl + 0 + 0 ≤ 7302250 by omega) (Nat.le_of_eq lw_ms.symm)) rfl rfl rfl ?_
  rintro z31 m32 ⟨hm36, hf37, p33, p34, p35⟩
  have h38 : m32.1 0 = m4.1 0 := hf37.1 0 rfl
  have h39 : m32.1 3 = m4.1 3 := hf37.1 3 rfl
  have h40 : m32.1 7 = m4.1 7 := hf37.1 7 rfl
  have h41 : m32.1 8 = m4.1 8 := hf37.1 8 rfl
  have h42 : m32.1 10 = m4.1 10 := hf37.1 10 rfl
  have h43 : m32.1 12 = m4.1 12 := hf37.1 12 rfl
  have h44 : m32.1 22 = m4.1 22 := hf37.1 22 rfl
  have h45 : m32.1 23 = m4.1 23 := hf37.1 23 rfl
  have h46 : m32.1 25 = m4.1 25 := hf37.1 25 rfl
  have h47 : m32.1 26 = m4.1 26 := hf37.1 26 rfl
  have h48 : m32.1 28 = m4.1 28 := hf37.1 28 rfl
  have h49 : m32.1 30 = m4.1 30 := hf37.1 30 rfl
  have h50 : m32.1 38 = m4.1 38 := hf37.1 38 rfl
  have h51 : m32.1 39 = m4.1 39 := hf37.1 39 rfl
  have y2_m32 : m32.2.1 2 = m4.2.1 2 := hf37.2.1 2 rfl
  have y64_m32 : m32.2.1 64 = m4.2.1 64 := hf37.2.1 64 rfl
  have y4_m32 : m32.2.1 4 = m4.2.1 4 := hf37.2.1 4 rfl
  have y5_m32 : m32.2.1 5 = m4.2.1 5 := hf37.2.1 5 rfl
  have y6_m32 : m32.2.1 6 = m4.2.1 6 := hf37.2.1 6 rfl
  have y7_m32 : m32.2.1 7 = m4.2.1 7 := hf37.2.1 7 rfl
  have y66_m32 : m32.2.1 66 = m4.2.1 66 := hf37.2.1 66 rfl
  have y32_m32 : m32.2.1 32 = m4.2.1 32 := hf37.2.1 32 rfl
  have y33_m32 : m32.2.1 33 = m4.2.1 33 := hf37.2.1 33 rfl
  have y73_m32 : m32.2.1 73 = m4.2.1 73 := hf37.2.1 73 rfl
  have t52 : kW m32 := kW_of (hf37.2.1 18 rfl) t24
  have t53 : kP m32 := kP_fr hf37 rfl rfl t25
  have t54 : k4 m32 := k4_of (hf37.1 28 rfl) t26
  have t55 : kD m32 := kD_of (hf37.1 26 rfl) (hf37.2.1 66 rfl) t27
  have t56 : kK m32 := kK_same (hf37.1 28 rfl) (hf37.2.1 62 rfl) (hf37.2.1 63 rfl) t28
  have R_m32 : m32.2.2.1 0 = m4.2.2.1 0 := by rw [hf37.2.2]
  refine g_pop2 rfl rfl ?_
  refine g_goto rfl ?_
  have r2n : m32.2.1 2 = m32.2.1 64 := by rw [y2_m32, y2_m4, y64_m32, y64_m4, r2]
  have hYn := DY_mv (show m32.1 26 = m.1 26 by omega) ((y66_m32).trans y66_m4) (show m32.1 30 = m.1 30 by omega) ((y4_m32).trans y4_m4) ((y5_m32).trans y5_m4) ((y6_m32).trans y6_m4) ((y7_m32).trans y7_m4) (show m32.1 12 = m.1 12 by omega) rY
  have hHn := HY_mv (show m32.1 22 = m.1 22 by omega) ((y32_m32).trans y32_m4) ((y33_m32).trans y33_m4) ((y73_m32).trans y73_m4) rH
  have hVn := DV_mv (show m32.1 7 = m.1 7 by omega) (show m32.1 8 = m.1 8 by omega) ((y4_m32).trans y4_m4) ((y5_m32).trans y5_m4) rV
  have hrl : rl m32 := ⟨by omega, r2n, by omega, by omega, by omega, by omega, by omega, hYn, hHn, hVn⟩
  have hb2 : sl + 0 + 0 ≤ 267897 + pp (k + 1) ∨ (m32.2.2.1 0 ≠ vE 0 ∧ sl + 0 + 0 ≤ 267897 + pp (k + 1 + 1)) := by
    rcases hbu.2 with h | ⟨h1, h2⟩
    · left; omega
    · right; refine ⟨?_, by omega⟩
      have u57 : m4.2.2.1 0 ≠ vE 0 := by rw [R_m4]; exact h1
      have u58 : m32.2.2.1 0 ≠ vE 0 := by rw [R_m32]; exact u57
      exact u58
  exact K m32 (cs + 0 + 0) (sl + 0 + 0) ⟨hm36, t52, t53, t54, t55, t56, hrl⟩ ⟨by omega, hb2⟩
theorem w_20 {V : cg_V} (hL : V.2.2.2.1 ≤ 256) {m : kM} {i : Int} {cs sl k : Nat} (hiv : iv m) (hbu : bu cs sl k m) (hk : k ≤ 63) (hi : 0 ≤ i ∧ i + 4 ≤ ((V.2.2.2.1 : Nat) : Int)) (K : ∀ (m' : kM) (cs' sl' : Nat), iv m' → bu cs' sl' (k + 1) m' → cg_G V mL_law 11 406 (fun r => ∃ w9, r = (some (vI 1), w9)) 756 [(3, vI i), (2, vR 61), (1, vR 0), (0, vE 1)] [] (kl m') cs' sl') : cg_G V mL_law 11 406 (fun r => ∃ w9, r = (some (vI 1), w9)) 664 [(3, vI i), (2, vR 61), (1, vR 0), (0, vE 1)] [] (kl m) cs sl := by
  obtain ⟨i_I, i_W, i_P, i_4, i_D, i_K, r3, r2, r7, r8, r10, r22, r0, rY, rH, rV⟩ := hiv
  have b1 := hbu.1
  have pp1 := pp_s k
  have pp2 := pp_s (k + 1)
  have pp3 := pp_le (show k + 1 ≤ 64 by omega)
  have b2 : sl ≤ 267897 + pp (k + 1) := by rcases hbu.2 with h | h <;> omega
  refine g_aload_n (n := 1) rfl rfl ?_
  refine g_aload_n (n := 0) rfl rfl ?_
  refine g_iload_n (n := 3) rfl rfl ?_
  refine g_iconst rfl ?_
  refine g_iadd rfl ?_
  refine g_xld (by omega) (by omega) hL (show decode cL_law 669 = .ok (.iaload, 1) by decide +kernel) ?_
  have h1 := sx_rng V (i + 1)
  refine c_vI (i := 0) (ps := [vI (sx V (i + 1))]) (r := []) (as := [vR 0, vI (sx V (i + 1))]) (cs' := cs + 0) (sl' := sl + 0) rfl rfl rfl rfl rfl rfl (kl_0 _) (c_ask (d := 11 - 1) (q := 406 - (2 + 19)) (by decide) (by decide) i_I (n := (sx V (i + 1))) (show (-2147483648) ≤ (sx V (i + 1)) ∧ (sx V (i + 1)) ≤ 2147483647 by omega) rV) (by decide) (show 2 + 19 ≤ 406 by decide) (Nat.le_trans (show cs + 0 ≤ 600000 by omega) (Nat.le_of_eq lw_mc.symm)) (Nat.le_trans (show sl + 0 ≤ 7302250 by omega) (Nat.le_of_eq lw_ms.symm)) rfl rfl rfl ?_
  rintro z2 m3 ⟨hm7, hf8, p4, p5, p6⟩
  have h9 : m3.1 0 = m.1 0 := hf8.1 0 rfl
  have h10 : m3.1 3 = m.1 3 := hf8.1 3 rfl
  have h11 : m3.1 7 = m.1 7 := hf8.1 7 rfl
  have h12 : m3.1 8 = m.1 8 := hf8.1 8 rfl
  have h13 : m3.1 10 = m.1 10 := hf8.1 10 rfl
  have h14 : m3.1 12 = m.1 12 := hf8.1 12 rfl
  have h15 : m3.1 22 = m.1 22 := hf8.1 22 rfl
  have h16 : m3.1 23 = m.1 23 := hf8.1 23 rfl
  have h17 : m3.1 25 = m.1 25 := hf8.1 25 rfl
  have h18 : m3.1 26 = m.1 26 := hf8.1 26 rfl
  have h19 : m3.1 28 = m.1 28 := hf8.1 28 rfl
  have h20 : m3.1 30 = m.1 30 := hf8.1 30 rfl
  have h21 : m3.1 38 = m.1 38 := hf8.1 38 rfl
  have h22 : m3.1 39 = m.1 39 := hf8.1 39 rfl
  have y2_m3 : m3.2.1 2 = m.2.1 2 := hf8.2.1 2 rfl
  have y64_m3 : m3.2.1 64 = m.2.1 64 := hf8.2.1 64 rfl
  have y4_m3 : m3.2.1 4 = m.2.1 4 := hf8.2.1 4 rfl
  have y5_m3 : m3.2.1 5 = m.2.1 5 := hf8.2.1 5 rfl
  have y6_m3 : m3.2.1 6 = m.2.1 6 := hf8.2.1 6 rfl
  have y7_m3 : m3.2.1 7 = m.2.1 7 := hf8.2.1 7 rfl
  have y66_m3 : m3.2.1 66 = m.2.1 66 := hf8.2.1 66 rfl
  have y32_m3 : m3.2.1 32 = m.2.1 32 := hf8.2.1 32 rfl
  have y33_m3 : m3.2.1 33 = m.2.1 33 := hf8.2.1 33 rfl
  have y73_m3 : m3.2.1 73 = m.2.1 73 := hf8.2.1 73 rfl
  have t23 : kW m3 := kW_of (hf8.2.1 18 rfl) i_W
  have t24 : kP m3 := kP_fr hf8 rfl rfl i_P
  have t25 : k4 m3 := k4_of (hf8.1 28 rfl) i_4
  have t26 : kD m3 := kD_of (hf8.1 26 rfl) (hf8.2.1 66 rfl) i_D
  have t27 : kK m3 := kK_same (hf8.1 28 rfl) (hf8.2.1 62 rfl) (hf8.2.1 63 rfl) i_K
  have R_m3 : m3.2.2.1 0 = m.2.2.1 0 := by rw [hf8.2.2]
  refine g_pop rfl rfl ?_
  refine g_aload_n (n := 2) rfl rfl ?_
  refine g_aload_n (n := 0) rfl rfl ?_
  refine g_iload_n (n := 3) rfl rfl ?_
  refine g_iconst rfl ?_
  refine g_iadd rfl ?_
  refine g_xld (by omega) (by omega) hL (show decode cL_law 679 = .ok (.iaload, 1) by decide +kernel) ?_
  have h28 := sx_rng V (i + 1)
  refine c_vI (i := 61) (ps := [vI (sx V (i + 1))]) (r := []) (as := [vR 61, vI (sx V (i + 1))]) (cs' := cs + 0 + 0) (sl' := sl + 0 + 0) rfl rfl rfl rfl rfl rfl (kl_61 _) (d_ask (d := 11 - 1) (q := 406 - (11 + 19)) (by decide) (by decide) hm7 (n := (sx V (i + 1))) (show (-2147483648) ≤ (sx V (i + 1)) ∧ (sx V (i + 1)) ≤ 2147483647 by omega) t26) (by decide) (show 11 + 19 ≤ 406 by decide) (Nat.le_trans (show cs + 0 + 0 ≤ 600000 by omega) (Nat.le_of_eq lw_mc.symm)) (Nat.le_trans (show sl + 0 + 0 ≤ 7302250 by omega) (Nat.le_of_eq lw_ms.symm)) rfl rfl rfl ?_
  rintro z29 m30 ⟨hm34, hf35, p31, p32, p33⟩
  have h36 : m30.1 0 = m3.1 0 := hf35.1 0 rfl
  have h37 : m30.1 3 = m3.1 3 := hf35.1 3 rfl
  have h38 : m30.1 7 = m3.1 7 := hf35.1 7 rfl
  have h39 : m30.1 8 = m3.1 8 := hf35.1 8 rfl
  have h40 : m30.1 10 = m3.1 10 := hf35.1 10 rfl
  have h41 : m30.1 12 = m3.1 12 := hf35.1 12 rfl
  have h42 : m30.1 22 = m3.1 22 := hf35.1 22 rfl
  have h43 : m30.1 23 = m3.1 23 := hf35.1 23 rfl
  have h44 : m30.1 25 = m3.1 25 := hf35.1 25 rfl
  have h45 : m30.1 26 = m3.1 26 := hf35.1 26 rfl
  have h46 : m30.1 28 = m3.1 28 := hf35.1 28 rfl
  have h47 : m30.1 30 = m3.1 30 := hf35.1 30 rfl
  have h48 : m30.1 38 = m3.1 38 := hf35.1 38 rfl
  have h49 : m30.1 39 = m3.1 39 := hf35.1 39 rfl
  have y2_m30 : m30.2.1 2 = m3.2.1 2 := hf35.2.1 2 rfl
  have y64_m30 : m30.2.1 64 = m3.2.1 64 := hf35.2.1 64 rfl
  have y4_m30 : m30.2.1 4 = m3.2.1 4 := hf35.2.1 4 rfl
  have y5_m30 : m30.2.1 5 = m3.2.1 5 := hf35.2.1 5 rfl
  have y6_m30 : m30.2.1 6 = m3.2.1 6 := hf35.2.1 6 rfl
  have y7_m30 : m30.2.1 7 = m3.2.1 7 := hf35.2.1 7 rfl
  have y66_m30 : m30.2.1 66 = m3.2.1 66 := hf35.2.1 66 rfl
  have y32_m30 : m30.2.1 32 = m3.2.1 32 := hf35.2.1 32 rfl
  have y33_m30 : m30.2.1 33 = m3.2.1 33 := hf35.2.1 33 rfl
  have y73_m30 : m30.2.1 73 = m3.2.1 73 := hf35.2.1 73 rfl
  have t50 : kW m30 := kW_of (hf35.2.1 18 rfl) t23
  have t51 : kP m30 := kP_fr hf35 rfl rfl t24
  have t52 : k4 m30 := k4_of (hf35.1 28 rfl) t25
  have t53 : kD m30 := kD_of (hf35.1 26 rfl) (hf35.2.1 66 rfl) t26
  have t54 : kK m30 := kK_same (hf35.1 28 rfl) (hf35.2.1 62 rfl) (hf35.2.1 63 rfl) t27
  have R_m30 : m30.2.2.1 0 = m3.2.2.1 0 := by rw [hf35.2.2]
  refine g_pop rfl rfl ?_
  refine g_goto rfl ?_
  have r2n : m30.2.1 2 = m30.2.1 64 := by rw [y2_m30, y2_m3, y64_m30, y64_m3, r2]
  have hYn := DY_mv (show m30.1 26 = m.1 26 by omega) ((y66_m30).trans y66_m3) (show m30.1 30 = m.1 30 by omega) ((y4_m30).trans y4_m3) ((y5_m30).trans y5_m3) ((y6_m30).trans y6_m3) ((y7_m30).trans y7_m3) (show m30.1 12 = m.1 12 by omega) rY
  have hHn := HY_mv (show m30.1 22 = m.1 22 by omega) ((y32_m30).trans y32_m3) ((y33_m30).trans y33_m3) ((y73_m30).trans y73_m3) rH
  have hVn := DV_mv (show m30.1 7 = m.1 7 by omega) (show m30.1 8 = m.1 8 by omega) ((y4_m30).trans y4_m3) ((y5_m30).trans y5_m3) rV
  have hrl : rl m30 := ⟨by omega, r2n, by omega, by omega, by omega, by omega, by omega, hYn, hHn, hVn⟩
  have hb2 : sl + 0 + 0 ≤ 267897 + pp (k + 1) ∨ (m30.2.2.1 0 ≠ vE 0 ∧ sl + 0 + 0 ≤ 267897 + pp (k + 1 + 1)) := by
    rcases hbu.2 with h | ⟨h1, h2⟩
    · left; omega
    · right; refine ⟨?_, by omega⟩
      have u55 : m3.2.2.1 0 ≠ vE 0 := by rw [R_m3]; exact h1
      have u56 : m30.2.2.1 0 ≠ vE 0 := by rw [R_m30]; exact u55
      exact u56
  exact K m30 (cs + 0 + 0) (sl + 0 + 0) ⟨hm34, t50, t51, t52, t53, t54, hrl⟩ ⟨by omega, hb2⟩
theorem w_21 {V : cg_V} (hL : V.2.2.2.1 ≤ 256) {m : kM} {i : Int} {cs sl k : Nat} (hiv : iv m) (hbu : bu cs sl k m) (hk : k ≤ 63) (hi : 0 ≤ i ∧ i + 4 ≤ ((V.2.2.2.1 : Nat) : Int)) (K : ∀ (m' : kM) (cs' sl' : Nat), iv m' → bu cs' sl' (k + 1) m' → cg_G V mL_law 11 406 (fun r => ∃ w9, r = (some (vI 1), w9)) 756 [(3, vI i), (2, vR 61), (1, vR 0), (0, vE 1)] [] (kl m') cs' sl') : cg_G V mL_law 11 406 (fun r => ∃ w9, r = (some (vI 1), w9)) 687 [(3, vI i), (2, vR 61), (1, vR 0), (0, vE 1)] [] (kl m) cs sl := by
  obtain ⟨i_I, i_W, i_P, i_4, i_D, i_K, r3, r2, r7, r8, r10, r22, r0, rY, rH, rV⟩ := hiv
  have b1 := hbu.1
  have pp1 := pp_s k
  have pp2 := pp_s (k + 1)
  have pp3 := pp_le (show k + 1 ≤ 64 by omega)
  have b2 : sl ≤ 267897 + pp (k + 1) := by rcases hbu.2 with h | h <;> omega
  refine g_aload_n (n := 1) rfl rfl ?_
  refine g_aload_n (n := 0) rfl rfl ?_
  refine g_iload_n (n := 3) rfl rfl ?_
  refine g_iconst rfl ?_
  refine g_iadd rfl ?_
  refine g_xld (by omega) (by omega) hL (show decode cL_law 692 = .ok (.iaload, 1) by decide +kernel) ?_
  have h1 := sx_rng V (i + 1)
  refine c_vI (i := 0) (ps := [vI (sx V (i + 1))]) (r := []) (as := [vR 0, vI (sx V (i + 1))]) (cs' := cs + 0) (sl' := sl + 0) rfl rfl rfl rfl rfl rfl (kl_0 _) (c_keep (d := 11 - 1) (q := 406 - (2 + 19)) (by decide) (by decide) i_I (a := (sx V (i + 1))) (show (-2147483648) ≤ (sx V (i + 1)) ∧ (sx V (i + 1)) ≤ 2147483647 by omega)) (by decide) (show 2 + 19 ≤ 406 by decide) (Nat.le_trans (show cs + 0 ≤ 600000 by omega) (Nat.le_of_eq lw_mc.symm)) (Nat.le_trans (show sl + 0 ≤ 7302250 by omega) (Nat.le_of_eq lw_ms.symm)) rfl rfl rfl ?_
  rintro z2 m3 ⟨hm6, hf7, p4, p5⟩
  have h8 : m3.1 0 = m.1 0 := hf7.1 0 rfl
  have h9 : m3.1 3 = m.1 3 := hf7.1 3 rfl
  have h10 : m3.1 7 = m.1 7 := hf7.1 7 rfl
  have h11 : m3.1 8 = m.1 8 := hf7.1 8 rfl
  have h12 : m3.1 10 = m.1 10 := hf7.1 10 rfl
  have h13 : m3.1 12 = m.1 12 := hf7.1 12 rfl
  have h14 : m3.1 22 = m.1 22 := hf7.1 22 rfl
  have h15 : m3.1 23 = m.1 23 := hf7.1 23 rfl
  have h16 : m3.1 25 = m.1 25 := hf7.1 25 rfl
  have h17 : m3.1 26 = m.1 26 := hf7.1 26 rfl
  have h18 : m3.1 28 = m.1 28 := hf7.1 28 rfl
  have h19 : m3.1 30 = m.1 30 := hf7.1 30 rfl
  have h20 : m3.1 38 = m.1 38 := hf7.1 38 rfl
  have h21 : m3.1 39 = m.1 39 := hf7.1 39 rfl
  have y2_m3 : m3.2.1 2 = m.2.1 2 := hf7.2.1 2 rfl
  have y64_m3 : m3.2.1 64 = m.2.1 64 := hf7.2.1 64 rfl
  have y4_m3 : m3.2.1 4 = m.2.1 4 := hf7.2.1 4 rfl
  have y5_m3 : m3.2.1 5 = m.2.1 5 := hf7.2.1 5 rfl
  have y6_m3 : m3.2.1 6 = m.2.1 6 := hf7.2.1 6 rfl
  have y7_m3 : m3.2.1 7 = m.2.1 7 := hf7.2.1 7 rfl
  have y66_m3 : m3.2.1 66 = m.2.1 66 := hf7.2.1 66 rfl
  have y32_m3 : m3.2.1 32 = m.2.1 32 := hf7.2.1 32 rfl
  have y33_m3 : m3.2.1 33 = m.2.1 33 := hf7.2.1 33 rfl
  have y73_m3 : m3.2.1 73 = m.2.1 73 := hf7.2.1 73 rfl
  have t22 : kW m3 := kW_of (hf7.2.1 18 rfl) i_W
  have t23 : kP m3 := kP_fr hf7 rfl rfl i_P
  have t24 : k4 m3 := k4_of (hf7.1 28 rfl) i_4
  have t25 : kD m3 := kD_of (hf7.1 26 rfl) (hf7.2.1 66 rfl) i_D
  have t26 : kK m3 := kK_same (hf7.1 28 rfl) (hf7.2.1 62 rfl) (hf7.2.1 63 rfl) i_K
  have R_m3 : m3.2.2.1 0 = m.2.2.1 0 := by rw [hf7.2.2]
  refine g_pop rfl rfl ?_
  refine g_aload_n (n := 2) rfl rfl ?_
  refine g_aload_n (n := 0) rfl rfl ?_
  refine g_iload_n (n := 3) rfl rfl ?_
  refine g_iconst rfl ?_
  refine g_iadd rfl ?_
  refine g_xld (by omega) (by omega) hL (show decode cL_law 702 = .ok (.iaload, 1) by decide +kernel) ?_
  have h27 := sx_rng V (i + 1)
  refine c_vI (i := 61) (ps := [vI (sx V (i + 1))]) (r := []) (as := [vR 61, vI (sx V (i + 1))]) (cs' := cs + 0 + 0) (sl' := sl + 0 + 0) rfl rfl rfl rfl rfl rfl (kl_61 _) (d_keep (d := 11 - 1) (q := 406 - (2 + 19)) (by decide) (by decide) hm6 (k := (sx V (i + 1))) (show (-2147483648) ≤ (sx V (i + 1)) ∧ (sx V (i + 1)) ≤ 2147483647 by omega) t24 t25 t26) (by decide) (show 2 + 19 ≤ 406 by decide) (Nat.le_trans (show cs + 0 + 0 ≤ 600000 by omega) (Nat.le_of_eq lw_mc.symm)) (Nat.le_trans (show sl + 0 + 0 ≤ 7302250 by omega) (Nat.le_of_eq lw_ms.symm)) rfl rfl rfl ?_
  rintro z28 m29 ⟨hm35, hf36, p30, p31, p32, p33, p34⟩
  have h37 : m29.1 0 = m3.1 0 := hf36.1 0 rfl
  have h38 : m29.1 3 = m3.1 3 := hf36.1 3 rfl
  have h39 : m29.1 7 = m3.1 7 := hf36.1 7 rfl
  have h40 : m29.1 8 = m3.1 8 := hf36.1 8 rfl
  have h41 : m29.1 10 = m3.1 10 := hf36.1 10 rfl
  have h42 : m29.1 12 = m3.1 12 := hf36.1 12 rfl
  have h43 : m29.1 22 = m3.1 22 := hf36.1 22 rfl
  have h44 : m29.1 23 = m3.1 23 := hf36.1 23 rfl
  have h45 : m29.1 25 = m3.1 25 := hf36.1 25 rfl
  have h46 : m29.1 26 = m3.1 26 := hf36.1 26 rfl
  have h47 : m29.1 28 = m3.1 28 := hf36.1 28 rfl
  have h48 : m29.1 30 = m3.1 30 := hf36.1 30 rfl
  have h49 : m29.1 38 = m3.1 38 := hf36.1 38 rfl
  have h50 : m29.1 39 = m3.1 39 := hf36.1 39 rfl
  have y2_m29 : m29.2.1 2 = m3.2.1 2 := hf36.2.1 2 rfl
  have y64_m29 : m29.2.1 64 = m3.2.1 64 := hf36.2.1 64 rfl
  have y4_m29 : m29.2.1 4 = m3.2.1 4 := hf36.2.1 4 rfl
  have y5_m29 : m29.2.1 5 = m3.2.1 5 := hf36.2.1 5 rfl
  have y6_m29 : m29.2.1 6 = m3.2.1 6 := hf36.2.1 6 rfl
  have y7_m29 : m29.2.1 7 = m3.2.1 7 := hf36.2.1 7 rfl
  have y66_m29 : m29.2.1 66 = m3.2.1 66 := hf36.2.1 66 rfl
  have y32_m29 : m29.2.1 32 = m3.2.1 32 := hf36.2.1 32 rfl
  have y33_m29 : m29.2.1 33 = m3.2.1 33 := hf36.2.1 33 rfl
  have y73_m29 : m29.2.1 73 = m3.2.1 73 := hf36.2.1 73 rfl
  have t51 : kW m29 := kW_of (hf36.2.1 18 rfl) t22
  have t52 : kP m29 := kP_fr hf36 rfl rfl t23
  have R_m29 : m29.2.2.1 0 = m3.2.2.1 0 := by rw [hf36.2.2]
  refine g_pop rfl rfl ?_
  refine g_goto rfl ?_
  have r2n : m29.2.1 2 = m29.2.1 64 := by rw [y2_m29, y2_m3, y64_m29, y64_m3, r2]
  have hYn := DY_mv (show m29.1 26 = m.1 26 by omega) ((y66_m29).trans y66_m3) (show m29.1 30 = m.1 30 by omega) ((y4_m29).trans y4_m3) ((y5_m29).trans y5_m3) ((y6_m29).trans y6_m3) ((y7_m29).trans y7_m3) (show m29.1 12 = m.1 12 by omega) rY
  have hHn := HY_mv (show m29.1 22 = m.1 22 by omega) ((y32_m29).trans y32_m3) ((y33_m29).trans y33_m3) ((y73_m29).trans y73_m3) rH
  have hVn := DV_mv (show m29.1 7 = m.1 7 by omega) (show m29.1 8 = m.1 8 by omega) ((y4_m29).trans y4_m3) ((y5_m29).trans y5_m3) rV
  have hrl : rl m29 := ⟨by omega, r2n, by omega, by omega, by omega, by omega, by omega, hYn, hHn, hVn⟩
  have hb2 : sl + 0 + 0 ≤ 267897 + pp (k + 1) ∨ (m29.2.2.1 0 ≠ vE 0 ∧ sl + 0 + 0 ≤ 267897 + pp (k + 1 + 1)) := by
    rcases hbu.2 with h | ⟨h1, h2⟩
    · left; omega
    · right; refine ⟨?_, by omega⟩
      have u53 : m3.2.2.1 0 ≠ vE 0 := by rw [R_m3]; exact h1
      have u54 : m29.2.2.1 0 ≠ vE 0 := by rw [R_m29]; exact u53
      exact u54
  exact K m29 (cs + 0 + 0) (sl + 0 + 0) ⟨hm35, t51, t52, p32, p33, p34, hrl⟩ ⟨by omega, hb2⟩
theorem w_22 {V : cg_V} (hL : V.2.2.2.1 ≤ 256) {m : kM} {i : Int} {cs sl k : Nat} (hiv : iv m) (hbu : bu cs sl k m) (hk : k ≤ 63) (hi : 0 ≤ i ∧ i + 4 ≤ ((V.2.2.2.1 : Nat) : Int)) (K : ∀ (m' : kM) (cs' sl' : Nat), iv m' → bu cs' sl' (k + 1) m' → cg_G V mL_law 11 406 (fun r => ∃ w9, r = (some (vI 1), w9)) 756 [(3, vI i), (2, vR 61), (1, vR 0), (0, vE 1)] [] (kl m') cs' sl') : cg_G V mL_law 11 406 (fun r => ∃ w9, r = (some (vI 1), w9)) 710 [(3, vI i), (2, vR 61), (1, vR 0), (0, vE 1)] [] (kl m) cs sl := by
  obtain ⟨i_I, i_W, i_P, i_4, i_D, i_K, r3, r2, r7, r8, r10, r22, r0, rY, rH, rV⟩ := hiv
  have b1 := hbu.1
  have pp1 := pp_s k
  have pp2 := pp_s (k + 1)
  have pp3 := pp_le (show k + 1 ≤ 64 by omega)
  have b2 : sl ≤ 267897 + pp (k + 1) := by rcases hbu.2 with h | h <;> omega
  refine g_aload_n (n := 1) rfl rfl ?_
  refine g_aload_n (n := 0) rfl rfl ?_
  refine g_iload_n (n := 3) rfl rfl ?_
  refine g_iconst rfl ?_
  refine g_iadd rfl ?_
  refine g_xld (by omega) (by omega) hL (show decode cL_law 715 = .ok (.iaload, 1) by decide +kernel) ?_
  have h1 := sx_rng V (i + 1)
  refine c_vI (i := 0) (ps := [vI (sx V (i + 1))]) (r := []) (as := [vR 0, vI (sx V (i + 1))]) (cs' := cs + 0) (sl' := sl + 0) rfl rfl rfl rfl rfl rfl (kl_0 _) (c_back (d := 11 - 1) (q := 406 - (2 + 19)) (by decide) (by decide) i_I (k := (sx V (i + 1))) (show (-2147483648) ≤ (sx V (i + 1)) ∧ (sx V (i + 1)) ≤ 2147483647 by omega) i_W i_P) (by decide) (show 2 + 19 ≤ 406 by decide) (Nat.le_trans (show cs + 0 ≤ 600000 by omega) (Nat.le_of_eq lw_mc.symm)) (Nat.le_trans (show sl + 0 ≤ 7302250 by omega) (Nat.le_of_eq lw_ms.symm)) rfl rfl rfl ?_
  rintro z2 m3 ⟨hm8, hf9, p4, p5, p6, p7⟩
  have h10 : m3.1 0 = m.1 0 := hf9.1 0 rfl
  have h11 : m3.1 3 = m.1 3 := hf9.1 3 rfl
  have h12 : m3.1 7 = m.1 7 := hf9.1 7 rfl
  have h13 : m3.1 8 = m.1 8 := hf9.1 8 rfl
  have h14 : m3.1 10 = m.1 10 := hf9.1 10 rfl
  have h15 : m3.1 12 = m.1 12 := hf9.1 12 rfl
  have h16 : m3.1 22 = m.1 22 := hf9.1 22 rfl
  have h17 : m3.1 23 = m.1 23 := hf9.1 23 rfl
  have h18 : m3.1 25 = m.1 25 := hf9.1 25 rfl
  have h19 : m3.1 26 = m.1 26 := hf9.1 26 rfl
  have h20 : m3.1 28 = m.1 28 := hf9.1 28 rfl
  have h21 : m3.1 30 = m.1 30 := hf9.1 30 rfl
  have h22 : m3.1 38 = m.1 38 := hf9.1 38 rfl
  have h23 : m3.1 39 = m.1 39 := hf9.1 39 rfl
  have y2_m3 : m3.2.1 2 = m.2.1 2 := hf9.2.1 2 rfl
  have y64_m3 : m3.2.1 64 = m.2.1 64 := hf9.2.1 64 rfl
  have y4_m3 : m3.2.1 4 = m.2.1 4 := hf9.2.1 4 rfl
  have y5_m3 : m3.2.1 5 = m.2.1 5 := hf9.2.1 5 rfl
  have y6_m3 : m3.2.1 6 = m.2.1 6 := hf9.2.1 6 rfl
  have y7_m3 : m3.2.1 7 = m.2.1 7 := hf9.2.1 7 rfl
  have y66_m3 : m3.2.1 66 = m.2.1 66 := hf9.2.1 66 rfl
  have y32_m3 : m3.2.1 32 = m.2.1 32 := hf9.2.1 32 rfl
  have y33_m3 : m3.2.1 33 = m.2.1 33 := hf9.2.1 33 rfl
  have y73_m3 : m3.2.1 73 = m.2.1 73 := hf9.2.1 73 rfl
  have t24 : k4 m3 := k4_of (hf9.1 28 rfl) i_4
  have t25 : kD m3 := kD_of (hf9.1 26 rfl) (hf9.2.1 66 rfl) i_D
  have t26 : kK m3 := kK_same (hf9.1 28 rfl) (hf9.2.1 62 rfl) (hf9.2.1 63 rfl) i_K
  refine g_pop rfl rfl ?_
  refine g_aload_n (n := 2) rfl rfl ?_
  refine g_aload_n (n := 0) rfl rfl ?_
  refine g_iload_n (n := 3) rfl rfl ?_
  refine g_iconst rfl ?_
  refine g_iadd rfl ?_
  refine g_xld (by omega) (by omega) hL (show decode cL_law 725 = .ok (.iaload, 1) by decide +kernel) ?_
  have h27 := sx_rng V (i + 1)
  refine c_vI (i := 61) (ps := [vI (sx V (i + 1))]) (r := []) (as := [vR 61, vI (sx V (i + 1))]) (cs' := cs + 0 + 0) (sl' := sl + 0 + 0) rfl rfl rfl rfl rfl rfl (kl_61 _) (d_back (d := 11 - 1) (q := 406 - (2 + 19)) (by decide) (by decide) hm8 (k := (sx V (i + 1))) (show (-2147483648) ≤ (sx V (i + 1)) ∧ (sx V (i + 1)) ≤ 2147483647 by omega) t24 t25 t26) (by decide) (show 2 + 19 ≤ 406 by decide) (Nat.le_trans (show cs + 0 + 0 ≤ 600000 by omega) (Nat.le_of_eq lw_mc.symm)) (Nat.le_trans (show sl + 0 + 0 ≤ 7302250 by omega) (Nat.le_of_eq lw_ms.symm)) rfl rfl rfl ?_
  rintro z28 m29 ⟨hm35, hf36, p30, p31, p32, p33, p34⟩
  have h37 : m29.1 0 = m3.1 0 := hf36.1 0 rfl
  have h38 : m29.1 3 = m3.1 3 := hf36.1 3 rfl
  have h39 : m29.1 7 = m3.1 7 := hf36.1 7 rfl
  have h40 : m29.1 8 = m3.1 8 := hf36.1 8 rfl
  have h41 : m29.1 10 = m3.1 10 := hf36.1 10 rfl
  have h42 : m29.1 12 = m3.1 12 := hf36.1 12 rfl
  have h43 : m29.1 22 = m3.1 22 := hf36.1 22 rfl
  have h44 : m29.1 23 = m3.1 23 := hf36.1 23 rfl
  have h45 : m29.1 25 = m3.1 25 := hf36.1 25 rfl
  have h46 : m29.1 26 = m3.1 26 := hf36.1 26 rfl
  have h47 : m29.1 28 = m3.1 28 := hf36.1 28 rfl
  have h48 : m29.1 30 = m3.1 30 := hf36.1 30 rfl
  have h49 : m29.1 38 = m3.1 38 := hf36.1 38 rfl
  have h50 : m29.1 39 = m3.1 39 := hf36.1 39 rfl
  have y2_m29 : m29.2.1 2 = m3.2.1 2 := hf36.2.1 2 rfl
  have y64_m29 : m29.2.1 64 = m3.2.1 64 := hf36.2.1 64 rfl
  have y4_m29 : m29.2.1 4 = m3.2.1 4 := hf36.2.1 4 rfl
  have y5_m29 : m29.2.1 5 = m3.2.1 5 := hf36.2.1 5 rfl
  have y6_m29 : m29.2.1 6 = m3.2.1 6 := hf36.2.1 6 rfl
  have y7_m29 : m29.2.1 7 = m3.2.1 7 := hf36.2.1 7 rfl
  have y66_m29 : m29.2.1 66 = m3.2.1 66 := hf36.2.1 66 rfl
  have y32_m29 : m29.2.1 32 = m3.2.1 32 := hf36.2.1 32 rfl
  have y33_m29 : m29.2.1 33 = m3.2.1 33 := hf36.2.1 33 rfl
  have y73_m29 : m29.2.1 73 = m3.2.1 73 := hf36.2.1 73 rfl
  have t51 : kW m29 := kW_of (hf36.2.1 18 rfl) p6
  have t52 : kP m29 := kP_fr hf36 rfl rfl p7
  have R_m29 : m29.2.2.1 0 = m3.2.2.1 0 := by rw [hf36.2.2]
  refine g_pop rfl rfl ?_
  refine g_goto rfl ?_
  have r2n : m29.2.1 2 = m29.2.1 64 := by rw [y2_m29, y2_m3, y64_m29, y64_m3, r2]
  have hYn := DY_mv (show m29.1 26 = m.1 26 by omega) ((y66_m29).trans y66_m3) (show m29.1 30 = m.1 30 by omega) ((y4_m29).trans y4_m3) ((y5_m29).trans y5_m3) ((y6_m29).trans y6_m3) ((y7_m29).trans y7_m3) (show m29.1 12 = m.1 12 by omega) rY
  have hHn := HY_mv (show m29.1 22 = m.1 22 by omega) ((y32_m29).trans y32_m3) ((y33_m29).trans y33_m3) ((y73_m29).trans y73_m3) rH
  have hVn := DV_mv (show m29.1 7 = m.1 7 by omega) (show m29.1 8 = m.1 8 by omega) ((y4_m29).trans y4_m3) ((y5_m29).trans y5_m3) rV
  have hrl : rl m29 := ⟨by omega, r2n, by omega, by omega, by omega, by omega, by omega, hYn, hHn, hVn⟩
  exact K m29 (cs + 0 + 0) (sl + 0 + 0) ⟨hm35, t51, t52, p32, p33, p34, hrl⟩ ⟨by omega, Or.inl (by omega)⟩
theorem w_23 {V : cg_V} (hL : V.2.2.2.1 ≤ 256) {m : kM} {i : Int} {cs sl k : Nat} (hiv : iv m) (hbu : bu cs sl k m) (hk : k ≤ 63) (hi : 0 ≤ i ∧ i + 4 ≤ ((V.2.2.2.1 : Nat) : Int)) (K : ∀ (m' : kM) (cs' sl' : Nat), iv m' → bu cs' sl' (k + 1) m' → cg_G V mL_law 11 406 (fun r => ∃ w9, r = (some (vI 1), w9)) 756 [(3, vI i), (2, vR 61), (1, vR 0), (0, vE 1)] [] (kl m') cs' sl') : cg_G V mL_law 11 406 (fun r => ∃ w9, r = (some (vI 1), w9)) 733 [(3, vI i), (2, vR 61), (1, vR 0), (0, vE 1)] [] (kl m) cs sl := by
  obtain ⟨i_I, i_W, i_P, i_4, i_D, i_K, r3, r2, r7, r8, r10, r22, r0, rY, rH, rV⟩ := hiv
  have b1 := hbu.1
  have pp1 := pp_s k
  have pp2 := pp_s (k + 1)
  have pp3 := pp_le (show k + 1 ≤ 64 by omega)
  have b2 : sl ≤ 267897 + pp (k + 1) := by rcases hbu.2 with h | h <;> omega
  refine g_aload_n (n := 1) rfl rfl ?_
  refine g_aload_n (n := 0) rfl rfl ?_
  refine g_iload_n (n := 3) rfl rfl ?_
  refine g_iconst rfl ?_
  refine g_iadd rfl ?_
  refine g_xld (by omega) (by omega) hL (show decode cL_law 738 = .ok (.iaload, 1) by decide +kernel) ?_
  have h1 := sx_rng V (i + 1)
  refine c_vI (i := 0) (ps := [vI (sx V (i + 1))]) (r := []) (as := [vR 0, vI (sx V (i + 1))]) (cs' := cs + 0) (sl' := sl + 0) rfl rfl rfl rfl rfl rfl (kl_0 _) (c_count (d := 11 - 1) (q := 406 - (2 + 19)) (by decide) (by decide) i_I (w := (sx V (i + 1))) (show (-2147483648) ≤ (sx V (i + 1)) ∧ (sx V (i + 1)) ≤ 2147483647 by omega)) (by decide) (show 2 + 19 ≤ 406 by decide) (Nat.le_trans (show cs + 0 ≤ 600000 by omega) (Nat.le_of_eq lw_mc.symm)) (Nat.le_trans (show sl + 0 ≤ 7302250 by omega) (Nat.le_of_eq lw_ms.symm)) rfl rfl rfl ?_
  rintro z2 m3 ⟨rfl, p4, p5⟩
  refine g_pop rfl rfl ?_
  refine g_aload_n (n := 2) rfl rfl ?_
  refine g_aload_n (n := 0) rfl rfl ?_
  refine g_iload_n (n := 3) rfl rfl ?_
  refine g_iconst rfl ?_
  refine g_iadd rfl ?_
  refine g_xld (by omega) (by omega) hL (show decode cL_law 748 = .ok (.iaload, 1) by decide +kernel) ?_
  have h6 := sx_rng V (i + 1)
  refine c_vI (i := 61) (ps := [vI (sx V (i + 1))]) (r := []) (as := [vR 61, vI (sx V (i + 1))]) (cs' := cs + 0 + 0) (sl' := sl + 0 + 0) rfl rfl rfl rfl rfl rfl (kl_61 _) (d_count (d := 11 - 1) (q := 406 - (2 + 19)) (by decide) (by decide) i_I (w := (sx V (i + 1))) (show (-2147483648) ≤ (sx V (i + 1)) ∧ (sx V (i + 1)) ≤ 2147483647 by omega)) (by decide) (show 2 + 19 ≤ 406 by decide) (Nat.le_trans (show cs + 0 + 0 ≤ 600000 by omega) (Nat.le_of_eq lw_mc.symm)) (Nat.le_trans (show sl + 0 + 0 ≤ 7302250 by omega) (Nat.le_of_eq lw_ms.symm)) rfl rfl rfl ?_
  rintro z7 m8 ⟨rfl, p9, p10⟩
  refine g_pop rfl rfl ?_
  refine g_goto rfl ?_
  have r2n := r2
  have hYn := rY
  have hHn := rH
  have hVn := rV
  have hrl : rl m := ⟨by omega, r2n, by omega, by omega, by omega, by omega, by omega, hYn, hHn, hVn⟩
  have hb2 : sl + 0 + 0 ≤ 267897 + pp (k + 1) ∨ (m.2.2.1 0 ≠ vE 0 ∧ sl + 0 + 0 ≤ 267897 + pp (k + 1 + 1)) := by
    rcases hbu.2 with h | ⟨h1, h2⟩
    · left; omega
    · right; refine ⟨?_, by omega⟩
      exact h1
  exact K m (cs + 0 + 0) (sl + 0 + 0) ⟨i_I, i_W, i_P, i_4, i_D, i_K, hrl⟩ ⟨by omega, hb2⟩
