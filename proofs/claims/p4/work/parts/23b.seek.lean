/-! ===== contracts: the class, its search to the row ===== -/
theorem c_reach2 {V : cg_V} {d q : Nat} (hd : 0 ≤ d) (hq : 0 ≤ q) {m : kM} (hm : kI m) {s a c : Int} (h_s : 0 ≤ s ∧ s ≤ 524287) (h_a : 0 ≤ a ∧ a ≤ 64511) (h_c : 0 ≤ c ∧ c ≤ 99) (h_kW : kW m) : cg_S V d q mX7_reach [vR 17, vI s, vI a, vI c] (kl m) (R_I (fun z m' => (kI m') ∧ (fr [20] [18, 19] m m') ∧ (kW m') ∧ (m'.1 20 = m.1 20 + z) ∧ (z = 0 ∨ z = 1))) := by
  have hf0 : fr [20] [18, 19] m m := fr_rf m
  refine cg_of (List.mem_of_getElem? (show ae_MT[24]? = some mX7_reach from rfl)) (Nat.le_of_ble_eq_true rfl) ?_
  show cg_G V mX7_reach d q _ 0 [(0, vR 17), (1, vI s), (2, vI a), (3, vI c)] [] (kl m) 0 0
  have h1 : 0 ≤ m.1 20 ∧ m.1 20 ≤ 64512 := hm.1 20
  refine g_iload_n (n := 1) rfl rfl ?_
  refine g_bipush (by decide) rfl ?_
  refine g_ishr rfl ?_
  intro z2 h3 h4 h5
  have h6 : z2 = s / 64 := b_shrN h3 (by decide) (by omega) (by omega) (by decide) (by decide)
  refine g_aload_n (n := 0) rfl rfl ?_
  refine g_getf (v := vR 19) rfl (kl_17 _) rfl ?_
  refine g_alen rfl (kl_19 _) (by decide) (by decide) ?_
  refine g_iconst rfl ?_
  refine g_isub rfl ?_
  refine g_iand rfl ?_
  intro z7 h8 h9 h10
  have h11 : z7 = z2 % 8192 := b_modN (k := 13) h8 (by decide) (by decide) (by decide)
  refine g_istore (n := 4) (lo' := [(0, vR 17), (1, vI s), (2, vI a), (3, vI c)]) rfl rfl ?_
  refine g_lconst (x := 1) (by decide) rfl ?_
  refine g_iload_n (n := 1) rfl rfl ?_
  refine g_bipush (by decide) rfl ?_
  refine g_iand rfl ?_
  intro z12 h13 h14 h15
  have h16 : z12 = s % 64 := b_modN (k := 6) h13 (by decide) (by decide) (by decide)
  refine g_lshl rfl ?_
  intro z17 h18 h19 h20
  refine g_lstore (n := 5) (lo' := [(4, vI z7), (0, vR 17), (1, vI s), (2, vI a), (3, vI c)]) rfl rfl ?_
  refine g_aload_n (n := 0) rfl rfl ?_
  refine g_getf (v := vR 19) rfl (kl_17 _) rfl ?_
  refine g_iload (n := 4) rfl rfl ?_
  have h22 : (-9223372036854775808) ≤ m.2.1 19 z7 ∧ m.2.1 19 z7 ≤ 9223372036854775807 := hm.2 19 z7 (by omega) (show z7 < (8192 : Int) by omega)
  refine g_lald (f := m.2.1 19) rfl (kl_19 _) (by decide) (by omega) (by omega) ?_
  refine g_lload (n := 5) rfl rfl ?_
  refine g_land rfl ?_
  intro z23 h24 h25 h26
  refine g_lconst (x := 0) (by decide) rfl ?_
  refine g_lcmp (by omega) (by omega) (by decide) (by decide) rfl ?_
  intro z28 h29
  refine g_if_ne (by omega) (by omega) rfl ?_ ?_
  · intro kk30
    refine g_iconst rfl ?_
    refine g_zret rfl rfl (by omega) ?_
    exact ⟨_, _, rfl, hm, hf0, h_kW, by omega, by omega⟩
  · intro kk31
    refine g_aload_n (n := 0) rfl rfl ?_
    refine g_getf (v := vI (m.1 20)) rfl (kl_17 _) rfl ?_
    refine g_ldci (x := 64512) rfl (by decide) rfl ?_
    refine g_icmp_lt (by omega) (by omega) (by decide) (by decide) rfl ?_ ?_
    · intro kk32
      refine g_aload_n (n := 0) rfl rfl ?_
      refine g_getf (v := vR 19) rfl (kl_17 _) rfl ?_
      refine g_iload (n := 4) rfl rfl ?_
      refine g_dup2 rfl rfl rfl ?_
      have h33 : (-9223372036854775808) ≤ m.2.1 19 z7 ∧ m.2.1 19 z7 ≤ 9223372036854775807 := hm.2 19 z7 (by omega) (show z7 < (8192 : Int) by omega)
      refine g_lald (f := m.2.1 19) rfl (kl_19 _) (by decide) (by omega) (by omega) ?_
      refine g_lload (n := 5) rfl rfl ?_
      refine g_lor rfl ?_
      intro z34 h35 h36 h37
      refine g_lAst (f := m.2.1 19) (m' := (kA m 19 (up (m.2.1 19) z7 z34))) rfl (kl_19 _) (by decide) (by omega) (by omega) (kA_19 _ _) ?_
      have hm39 : kI (kA m 19 (up (m.2.1 19) z7 z34)) := kI_U hm 19 rfl (show ((-9223372036854775808) : Int) ≤ z34 by omega) (show z34 ≤ (9223372036854775807 : Int) by omega)
      have hf40 : fr [20] [18, 19] m (kA m 19 (up (m.2.1 19) z7 z34)) := fr_A hf0 19 _ rfl
      refine g_aload_n (n := 0) rfl rfl ?_
      refine g_getf (v := vR 18) rfl (kl_17 _) rfl ?_
      refine g_aload_n (n := 0) rfl rfl ?_
      refine g_getf (v := vI (m.1 20)) rfl (kl_17 _) rfl ?_
      refine g_iload_n (n := 1) rfl rfl ?_
      refine g_i2l (by omega) (by omega) rfl ?_
      refine g_iload_n (n := 2) rfl rfl ?_
      refine g_i2l (by omega) (by omega) rfl ?_
      refine g_bipush (by decide) rfl ?_
      refine g_lshl rfl ?_
      intro z41 h42 h43 h44
      have h45 : z41 = a * 524288 := b_lshlN h42 (by decide) (by omega) (by decide) (by decide) (by omega)
      refine g_lor rfl ?_
      intro z46 h47 h48 h49
      have h50 : z46 = s + z41 := b_laddN (k := 19) (N := 524288) (w := a) h47 (by decide) (by omega) (by omega) (by omega) (by omega) (by omega)
      refine g_iload_n (n := 3) rfl rfl ?_
      refine g_i2l (by omega) (by omega) rfl ?_
      refine g_bipush (by decide) rfl ?_
      refine g_lshl rfl ?_
      intro z51 h52 h53 h54
      have h55 : z51 = c * 68719476736 := b_lshlN h52 (by decide) (by omega) (by decide) (by decide) (by omega)
      refine g_lor rfl ?_
      intro z56 h57 h58 h59
      have h60 : z56 = z46 + z51 := b_laddN (k := 36) (N := 68719476736) (w := c) h57 (by decide) (by omega) (by omega) (by omega) (by omega) (by omega)
      refine g_lAst (f := m.2.1 18) (m' := (kA (kA m 19 (up (m.2.1 19) z7 z34)) 18 (up (m.2.1 18) (m.1 20) z56))) rfl (kl_18 _) (by decide) (by omega) (by omega) (kA_18 _ _) ?_
      have hm61 : kI (kA (kA m 19 (up (m.2.1 19) z7 z34)) 18 (up (m.2.1 18) (m.1 20) z56)) := kI_U hm39 18 rfl (show ((-9223372036854775808) : Int) ≤ z56 by omega) (show z56 ≤ (9223372036854775807 : Int) by omega)
      have hf62 : fr [20] [18, 19] m (kA (kA m 19 (up (m.2.1 19) z7 z34)) 18 (up (m.2.1 18) (m.1 20) z56)) := fr_A hf40 18 _ rfl
      refine g_aload_n (n := 0) rfl rfl ?_
      refine g_dup rfl rfl ?_
      refine g_getf (v := vI (m.1 20)) rfl (kl_17 _) rfl ?_
      refine g_iconst rfl ?_
      refine g_iadd rfl ?_
      refine g_putF (m' := (kF (kA (kA m 19 (up (m.2.1 19) z7 z34)) 18 (up (m.2.1 18) (m.1 20) z56)) 20 (m.1 20 + 1))) rfl (kl_17 _) rfl rfl rfl rfl (kF_20 _ _) ?_
      have hm63 : kI (kF (kA (kA m 19 (up (m.2.1 19) z7 z34)) 18 (up (m.2.1 18) (m.1 20) z56)) 20 (m.1 20 + 1)) := kI_F hm61 20 (show (0 : Int) ≤ (m.1 20 + 1) by omega) (show (m.1 20 + 1) ≤ (64512 : Int) by omega)
      have hf64 : fr [20] [18, 19] m (kF (kA (kA m 19 (up (m.2.1 19) z7 z34)) 18 (up (m.2.1 18) (m.1 20) z56)) 20 (m.1 20 + 1)) := fr_F hf62 20 _ rfl
      refine g_iconst rfl ?_
      refine g_zret rfl rfl (by omega) ?_
      exact ⟨_, _, rfl, hm63, hf64, kW_put h_kW (v := z56) rfl (by omega) (by omega), (show m.1 20 + 1 = m.1 20 + 1 from rfl), by omega⟩
    · intro kk65
      refine g_iconst rfl ?_
      refine g_zret rfl rfl (by omega) ?_
      exact ⟨_, _, rfl, hm, hf0, h_kW, by omega, by omega⟩
theorem c_spread2 {V : cg_V} {d q : Nat} (hd : 4 ≤ d) (hq : 106 ≤ q) {m : kM} (hm : kI m) {a g : Int} (h_a : 0 ≤ a ∧ a ≤ 64511) (h_g : (-2147483648) ≤ g ∧ g ≤ 2147483647) (h_kW : kW m) : cg_S V d q mX7_spread [vR 17, vI a, vI g] (kl m) (R_I (fun z m' => (kI m') ∧ (fr [20, 21] [18, 19, 20] m m') ∧ (kW m') ∧ (m.1 20 ≤ m'.1 20) ∧ (z = 0 ∨ z = 1))) := by
  have hf0 : fr [20, 21] [18, 19, 20] m m := fr_rf m
  refine cg_of (List.mem_of_getElem? (show ae_MT[31]? = some mX7_spread from rfl)) (Nat.le_of_ble_eq_true rfl) ?_
  show cg_G V mX7_spread d q _ 0 [(0, vR 17), (1, vI a), (2, vI g)] [] (kl m) 0 0
  have h1 : 0 ≤ m.1 20 ∧ m.1 20 ≤ 64512 := hm.1 20
  refine g_aload_n (n := 0) rfl rfl ?_
  refine g_iload_n (n := 1) rfl rfl ?_
  refine c_vI (i := 17) (ps := [vI a]) (r := []) (as := [vR 17, vI a]) (cs' := 0) (sl' := 0) rfl rfl rfl rfl rfl rfl (kl_17 _) (c_standingAt (d := d - 1) (q := q - (2 + 19)) (by omega) (by omega) hm (a := a) (show 0 ≤ a ∧ a ≤ 64511 by omega)) (by omega) (show 2 + 19 ≤ q by omega) (Nat.le_of_ble_eq_true rfl) (Nat.le_of_ble_eq_true rfl) rfl rfl rfl ?_
  rintro z2 m3 ⟨rfl, p5, p6⟩
  refine g_istore_n (n := 3) (lo' := [(0, vR 17), (1, vI a), (2, vI g)]) rfl rfl ?_
  refine g_aload_n (n := 0) rfl rfl ?_
  refine g_iconst rfl ?_
  refine g_putF (m' := (kF m 21 0)) rfl (kl_17 _) rfl rfl rfl rfl (kF_21 _ _) ?_
  have hm7 : kI (kF m 21 0) := kI_F hm 21 (show (0 : Int) ≤ 0 by omega) (show 0 ≤ (100 : Int) by omega)
  have hf8 : fr [20, 21] [18, 19, 20] m (kF m 21 0) := fr_F hf0 21 _ rfl
  refine g_aload_n (n := 0) rfl rfl ?_
  refine g_iload_n (n := 3) rfl rfl ?_
  refine g_iconst rfl ?_
  refine c_vV (i := 17) (ps := [vI 0, vI z2]) (r := []) (as := [vR 17, vI z2, vI 0]) (cs' := 0) (sl' := 0) rfl rfl rfl rfl rfl rfl (kl_17 _) (c_listCodes (d := d - 1) (q := q - (5 + 19)) (by omega) (by omega) hm7 (s := z2) (g := 0) (show (-2147483648) ≤ z2 ∧ z2 ≤ 2147483647 by omega) (show 0 ≤ 0 ∧ 0 ≤ 1 by omega)) (by omega) (show 5 + 19 ≤ q by omega) (Nat.le_of_ble_eq_true rfl) (Nat.le_of_ble_eq_true rfl) rfl rfl rfl ?_
  rintro m10 ⟨hm12, hc13⟩
  have hf14 : fr [20, 21] [18, 19, 20] m m10 := fr_tr hf8 (fr_le hc13 rfl rfl)
  have h15 : m10.1 20 = m.1 20 := hc13.1 20 rfl
  have h16 : 0 ≤ m10.1 20 ∧ m10.1 20 ≤ 64512 := hm12.1 20
  have t17 : kW m10 := kW_fr hc13 rfl rfl h_kW
  refine g_aload_n (n := 0) rfl rfl ?_
  refine g_iload_n (n := 3) rfl rfl ?_
  refine g_iconst rfl ?_
  refine c_vV (i := 17) (ps := [vI 1, vI z2]) (r := []) (as := [vR 17, vI z2, vI 1]) (cs' := 0) (sl' := 0) rfl rfl rfl rfl rfl rfl (kl_17 _) (c_listCodes (d := d - 1) (q := q - (5 + 19)) (by omega) (by omega) hm12 (s := z2) (g := 1) (show (-2147483648) ≤ z2 ∧ z2 ≤ 2147483647 by omega) (show 0 ≤ 1 ∧ 1 ≤ 1 by omega)) (by omega) (show 5 + 19 ≤ q by omega) (Nat.le_of_ble_eq_true rfl) (Nat.le_of_ble_eq_true rfl) rfl rfl rfl ?_
  rintro m19 ⟨hm21, hc22⟩
  have hf23 : fr [20, 21] [18, 19, 20] m m19 := fr_tr hf14 (fr_le hc22 rfl rfl)
  have h24 : m19.1 20 = m10.1 20 := hc22.1 20 rfl
  have h25 : 0 ≤ m19.1 20 ∧ m19.1 20 ≤ 64512 := hm21.1 20
  have t26 : kW m19 := kW_fr hc22 rfl rfl t17
  refine g_iconst rfl ?_
  refine g_istore (n := 4) (lo' := [(3, vI z2), (0, vR 17), (1, vI a), (2, vI g)]) rfl rfl ?_
  have L26_1 : ∀ (n26_1 : Nat) (i_1 : Int) (mL1 : kM), (kI mL1) → (fr [20, 21] [18, 19, 20] m mL1) → (0 ≤ i_1 ∧ i_1 ≤ 100) → (kW mL1) → (m.1 20 ≤ mL1.1 20) → ((100 - i_1).toNat) = n26_1 → cg_G V mX7_spread d q (R_I (fun z m' => (kI m') ∧ (fr [20, 21] [18, 19, 20] m m') ∧ (kW m') ∧ (m.1 20 ≤ m'.1 20) ∧ (z = 0 ∨ z = 1))) 26 [(4, vI i_1), (3, vI z2), (0, vR 17), (1, vI a), (2, vI g)] [] (kl mL1) 0 0 := by
    intro n26_1
    induction n26_1 using Nat.strongRecOn with
    | _ n26_1 ih26_1 =>
      intro i_1 mL1 hmL1 hfL1 i27 i28 i29 q30
      refine g_iload (n := 4) rfl rfl ?_
      refine g_aload_n (n := 0) rfl rfl ?_
      have h31 : 0 ≤ mL1.1 21 ∧ mL1.1 21 ≤ 100 := hmL1.1 21
      refine g_getf (v := vI (mL1.1 21)) rfl (kl_17 _) rfl ?_
      refine g_icmp_ge (by omega) (by omega) (by omega) (by omega) rfl ?_ ?_
      · intro kk32
        refine g_iconst rfl ?_
        refine g_zret rfl rfl (by omega) ?_
        exact ⟨_, _, rfl, hmL1, hfL1, i28, (by omega), (by omega)⟩
      · intro kk33
        refine g_aload_n (n := 0) rfl rfl ?_
        refine g_getf (v := vR 15) rfl (kl_17 _) rfl ?_
        refine g_iload_n (n := 3) rfl rfl ?_
        refine g_aload_n (n := 0) rfl rfl ?_
        refine g_getf (v := vR 20) rfl (kl_17 _) rfl ?_
        refine g_iload (n := 4) rfl rfl ?_
        have h34 : 0 ≤ mL1.2.1 20 i_1 ∧ mL1.2.1 20 i_1 ≤ 99 := hmL1.2 20 i_1 (by omega) (show i_1 < (100 : Int) by omega)
        refine g_iald (f := mL1.2.1 20) rfl (kl_20 _) (by decide) (by omega) (by omega) ?_
        refine c_vI (i := 15) (ps := [vI (mL1.2.1 20 i_1), vI z2]) (r := []) (as := [vR 15, vI z2, vI (mL1.2.1 20 i_1)]) (cs' := 0) (sl' := 0) rfl rfl rfl rfl rfl rfl (kl_15 _) (c_after (d := d - 1) (q := q - (10 + 19)) (by omega) (by omega) hmL1 (s := z2) (c := mL1.2.1 20 i_1) (show 0 ≤ z2 ∧ z2 ≤ 524287 by omega) (show 0 ≤ mL1.2.1 20 i_1 ∧ mL1.2.1 20 i_1 ≤ 99 by omega)) (by omega) (show 10 + 19 ≤ q by omega) (Nat.le_of_ble_eq_true rfl) (Nat.le_of_ble_eq_true rfl) rfl rfl rfl ?_
        rintro z35 m36 ⟨rfl, p38, p39⟩
        refine g_istore (n := 5) (lo' := [(4, vI i_1), (3, vI z2), (0, vR 17), (1, vI a), (2, vI g)]) rfl rfl ?_
        refine g_iload (n := 5) rfl rfl ?_
        refine g_iconst rfl ?_
        refine g_icmp_eq (by omega) (by omega) (by decide) (by decide) rfl ?_ ?_
        · intro kk40
          refine g_iinc (n := 4) (lo' := [(5, vI z35), (3, vI z2), (0, vR 17), (1, vI a), (2, vI g)]) rfl rfl rfl ?_
          refine g_goto rfl ?_
          refine g_pick (lo' := [(4, vI (i_1 + 1)), (3, vI z2), (0, vR 17), (1, vI a), (2, vI g)]) [0, 2, 3, 4, 5] rfl ?_
          exact ih26_1 _ (by omega) (i_1 + 1) mL1 hmL1 hfL1 (by omega) i28 (by omega) rfl
        · intro kk41
          refine g_aload_n (n := 0) rfl rfl ?_
          refine g_iload (n := 5) rfl rfl ?_
          refine g_iload_n (n := 1) rfl rfl ?_
          refine g_aload_n (n := 0) rfl rfl ?_
          refine g_getf (v := vR 20) rfl (kl_17 _) rfl ?_
          refine g_iload (n := 4) rfl rfl ?_
          have h42 : 0 ≤ mL1.2.1 20 i_1 ∧ mL1.2.1 20 i_1 ≤ 99 := hmL1.2 20 i_1 (by omega) (show i_1 < (100 : Int) by omega)
          refine g_iald (f := mL1.2.1 20) rfl (kl_20 _) (by decide) (by omega) (by omega) ?_
          have h43 : 0 ≤ mL1.1 20 ∧ mL1.1 20 ≤ 64512 := hmL1.1 20
          refine c_vI (i := 17) (ps := [vI (mL1.2.1 20 i_1), vI a, vI z35]) (r := []) (as := [vR 17, vI z35, vI a, vI (mL1.2.1 20 i_1)]) (cs' := 0) (sl' := 0) rfl rfl rfl rfl rfl rfl (kl_17 _) (c_reach2 (d := d - 1) (q := q - (7 + 19)) (by omega) (by omega) hmL1 (s := z35) (a := a) (c := mL1.2.1 20 i_1) (show 0 ≤ z35 ∧ z35 ≤ 524287 by omega) (show 0 ≤ a ∧ a ≤ 64511 by omega) (show 0 ≤ mL1.2.1 20 i_1 ∧ mL1.2.1 20 i_1 ≤ 99 by omega) i28) (by omega) (show 7 + 19 ≤ q by omega) (Nat.le_of_ble_eq_true rfl) (Nat.le_of_ble_eq_true rfl) rfl rfl rfl ?_
          rintro z44 m45 ⟨hm47, hc48, p49, p50, p51⟩
          have hf52 : fr [20, 21] [18, 19, 20] m m45 := fr_tr hfL1 (fr_le hc48 rfl rfl)
          have h53 : m45.1 21 = mL1.1 21 := hc48.1 21 rfl
          have h54 : 0 ≤ m45.1 21 ∧ m45.1 21 ≤ 100 := hm47.1 21
          refine g_if_eq (by omega) (by omega) rfl ?_ ?_
          · intro kk55
            refine g_iinc (n := 4) (lo' := [(5, vI z35), (3, vI z2), (0, vR 17), (1, vI a), (2, vI g)]) rfl rfl rfl ?_
            refine g_goto rfl ?_
            refine g_pick (lo' := [(4, vI (i_1 + 1)), (3, vI z2), (0, vR 17), (1, vI a), (2, vI g)]) [0, 2, 3, 4, 5] rfl ?_
            exact ih26_1 _ (by omega) (i_1 + 1) m45 hm47 hf52 (by omega) p49 (by omega) rfl
          · intro kk56
            refine g_iload (n := 5) rfl rfl ?_
            refine g_iload_n (n := 2) rfl rfl ?_
            refine c_sI (ps := [vI g, vI z35]) (r := []) (as := [vI z35, vI g]) (cs' := 0) (sl' := 0) rfl rfl rfl rfl rfl rfl (c_fits (d := d - 1) (q := q - (2 + 19)) (by omega) (by omega) hm47 (s := z35) (g := g) (show (-2147483648) ≤ z35 ∧ z35 ≤ 2147483647 by omega) (show (-2147483648) ≤ g ∧ g ≤ 2147483647 by omega)) (by omega) (show 2 + 19 ≤ q by omega) (Nat.le_of_ble_eq_true rfl) (Nat.le_of_ble_eq_true rfl) rfl rfl rfl ?_
            rintro z57 m58 ⟨rfl, p60⟩
            refine g_if_eq (by omega) (by omega) rfl ?_ ?_
            · intro kk61
              refine g_iinc (n := 4) (lo' := [(5, vI z35), (3, vI z2), (0, vR 17), (1, vI a), (2, vI g)]) rfl rfl rfl ?_
              refine g_goto rfl ?_
              refine g_pick (lo' := [(4, vI (i_1 + 1)), (3, vI z2), (0, vR 17), (1, vI a), (2, vI g)]) [0, 2, 3, 4, 5] rfl ?_
              exact ih26_1 _ (by omega) (i_1 + 1) m45 hm47 hf52 (by omega) p49 (by omega) rfl
            · intro kk62
              refine g_iconst rfl ?_
              refine g_zret rfl rfl (by omega) ?_
              exact ⟨_, _, rfl, hm47, hf52, p49, (by omega), (by omega)⟩
  exact L26_1 _ 0 m19 hm21 hf23 (by omega) t26 (by omega) rfl
theorem c_pathToLast {V : cg_V} {d q : Nat} (hd : 2 ≤ d) (hq : 36 ≤ q) {m : kM} (hm : kI m) (h_kW : kW m) : cg_S V d q mX7_pathToLast [vR 17] (kl m) (R_A (fun a m' => (kI m') ∧ (fs [] [] m m') ∧ pth m' (.inr (.inr a)))) := by
  have hf0 : fs [] [] m m := fs_rf m
  refine cg_of (List.mem_of_getElem? (show ae_MT[34]? = some mX7_pathToLast from rfl)) (Nat.le_of_ble_eq_true rfl) ?_
  show cg_G V mX7_pathToLast d q _ 0 [(0, vR 17)] [] (kl m) 0 0
  refine g_aload_n (n := 0) rfl rfl ?_
  have h1 : 0 ≤ m.1 20 ∧ m.1 20 ≤ 64512 := hm.1 20
  refine g_getf (v := vI (m.1 20)) rfl (kl_17 _) rfl ?_
  refine g_iconst rfl ?_
  refine g_isub rfl ?_
  refine g_istore_n (n := 1) (lo' := [(0, vR 17)]) rfl rfl ?_
  refine g_iconst rfl ?_
  refine g_istore_n (n := 2) (lo' := [(1, vI (m.1 20 - 1)), (0, vR 17)]) rfl rfl ?_
  refine g_iload_n (n := 1) rfl rfl ?_
  refine g_istore_n (n := 3) (lo' := [(2, vI 0), (1, vI (m.1 20 - 1)), (0, vR 17)]) rfl rfl ?_
  have L11_1 : ∀ (n11_1 : Nat) (n_1 : Int) (p_1 : Int), (0 ≤ n_1 ∧ n_1 ≤ 64512) → ((-1) ≤ p_1 ∧ p_1 ≤ 64511) → ((n_1 = 0 ∧ p_1 = (m.1 20 - 1)) ∨ 0 < (m.1 20 - 1)) → ((64512 - n_1).toNat) = n11_1 → cg_G V mX7_pathToLast d q (R_A (fun a m' => (kI m') ∧ (fs [] [] m m') ∧ pth m' (.inr (.inr a)))) 11 [(3, vI p_1), (2, vI n_1), (1, vI (m.1 20 - 1)), (0, vR 17)] [] (kl m) 0 0 := by
    intro n11_1
    induction n11_1 using Nat.strongRecOn with
    | _ n11_1 ih11_1 =>
      intro n_1 p_1 i2 i3 i4 q5
      refine g_iload_n (n := 3) rfl rfl ?_
      refine g_if_le (by omega) (by omega) rfl ?_ ?_
      · intro kk6
        refine g_iload_n (n := 2) rfl rfl ?_
        refine g_newa (x := n_1) rfl (by omega) (by omega) (Nat.le_of_ble_eq_true rfl) (show 0 + Int.toNat n_1 ≤ 64514 by omega) ?_
        rw [kT_app, kl_len]
        refine g_astore_n (n := 3) (lo' := [(2, vI n_1), (1, vI (m.1 20 - 1)), (0, vR 17)]) rfl rfl ?_
        refine g_iload_n (n := 1) rfl rfl ?_
        refine g_istore (n := 4) (lo' := [(3, vR (76 + m.2.2.2.length)), (2, vI n_1), (1, vI (m.1 20 - 1)), (0, vR 17)]) rfl rfl ?_
        refine g_iload_n (n := 2) rfl rfl ?_
        refine g_iconst rfl ?_
        refine g_isub rfl ?_
        refine g_istore (n := 5) (lo' := [(4, vI (m.1 20 - 1)), (3, vR (76 + m.2.2.2.length)), (2, vI n_1), (1, vI (m.1 20 - 1)), (0, vR 17)]) rfl rfl ?_
        have L45 : ∀ (n : Nat) (i p : Int) (f : Int → Int), (-1 ≤ i ∧ i < n_1) → (0 ≤ i → 0 ≤ p ∧ p ≤ 64511) → (i + 1).toNat = n → cg_G V mX7_pathToLast d q (R_A (fun a m' => (kI m') ∧ (fs [] [] m m') ∧ pth m' (.inr (.inr a)))) 45 [(5, vI i), (4, vI p), (3, vR (76 + m.2.2.2.length)), (2, vI n_1), (1, vI (m.1 20 - 1)), (0, vR 17)] [] (kl (kT m (cI (Int.toNat n_1) f))) (0 + 1) (0 + Int.toNat n_1) := by
          intro n
          induction n using Nat.strongRecOn with
          | _ n ih =>
            intro i p f hi hp hn
            refine g_iload (n := 5) rfl rfl ?_
            refine g_if_lt (by omega) (by omega) rfl ?_ ?_
            · intro kb
              refine g_new (fs := [vI 0, vE 0]) rfl rfl (Nat.le_of_ble_eq_true rfl) (show 0 + Int.toNat n_1 + 2 ≤ 64514 by omega) ?_
              rw [kT_app, kl_len, kT_len]
              refine g_dup rfl rfl ?_
              refine g_iload_n (n := 2) rfl rfl ?_
              refine g_aload_n (n := 3) rfl rfl ?_
              have hget : (kl (kT (kT m (cI (Int.toNat n_1) f)) (.inr (4, [vI 0, vE 0]))))[76 + (m.2.2.2.length + 1)]? = some (.inr (4, [vI 0, vE 0])) := by have h9 := kT_get (kT m (cI (Int.toNat n_1) f)) (.inr (4, [vI 0, vE 0])); rw [kT_len] at h9; exact h9
              refine g_invi (ps := [vR (76 + m.2.2.2.length), vI n_1]) (r := [vR (76 + (m.2.2.2.length + 1))]) (as := [vR (76 + (m.2.2.2.length + 1)), vI n_1, vR (76 + m.2.2.2.length)]) rfl rfl rfl rfl rfl rfl (c_X5 (d := d - 1) (q := q - (3 + 19)) (by omega) (by omega) hget) rfl rfl (by omega) (show 3 + 19 ≤ q by omega) (Nat.le_of_ble_eq_true rfl) (show 0 + Int.toNat n_1 + 2 + 0 ≤ 64514 by omega) (Nat.le_of_ble_eq_true rfl) ?_
              rintro _ rfl
              have hset := kT_set1 (kT m (cI (Int.toNat n_1) f)) (.inr (4, [vI 0, vE 0])) (.inr (4, [vI n_1, vR (76 + m.2.2.2.length)]))
              rw [kT_len] at hset
              have hp9 := pth_1 m (x := n_1) (n := Int.toNat n_1) (f := f) (by omega) (by omega)
              refine g_weq (w' := kl (kT (kT m (cI (Int.toNat n_1) f)) (.inr (4, [vI n_1, vR (76 + m.2.2.2.length)])))) (by rw [hset]; exact cw_W_rf _) ?_
              refine g_aret rfl rfl ?_
              exact ⟨_, _, rfl, hm, fs_T (fs_T (fs_rf m) _) _, hp9⟩
            · intro kb
              have hp := hp (by omega)
              refine g_aload_n (n := 3) rfl rfl ?_
              refine g_iload (n := 5) rfl rfl ?_
              refine g_aload_n (n := 0) rfl rfl ?_
              refine g_getf (v := vR 18) rfl (kl_17 _) rfl ?_
              refine g_iload (n := 4) rfl rfl ?_
              refine g_lald (f := m.2.1 18) rfl (kl_18 _) (by decide) (by omega) (by omega) ?_
              refine g_bipush (by decide) rfl ?_
              refine g_lshr rfl ?_
              intro z1 hz1 hz2 hz3
              refine g_l2i rfl ?_
              refine g_iast (f := f) rfl (kT_get _ _) (by omega) (by omega) (by omega) ?_
              rw [kT_set1]
              refine g_aload_n (n := 0) rfl rfl ?_
              refine g_iload (n := 4) rfl rfl ?_
              refine c_vI (i := 17) (ps := [vI p]) (r := []) (as := [vR 17, vI p]) (cs' := 0 + 1) (sl' := 0 + Int.toNat n_1) rfl rfl rfl rfl rfl rfl (kl_17 _) (c_aheadOf (d := d - 1) (q := q - (2 + 19)) (by omega) (by omega) (show kI (kT m _) from hm) (a := p) (by omega)) (by omega) (show 2 + 19 ≤ q by omega) (Nat.le_of_ble_eq_true rfl) (show 0 + Int.toNat n_1 + 0 ≤ 64514 by omega) rfl rfl rfl ?_
              rintro z2 m2 ⟨rfl, p2⟩
              have ha : m.2.1 18 p / 524288 % 131072 < 64512 := (h_kW p hp.1 (by omega)).2
              have p3 : z2 = m.2.1 18 p / 524288 % 131072 := p2
              refine g_istore (n := 4) (lo' := [(5, vI i), (3, vR (76 + m.2.2.2.length)), (2, vI n_1), (1, vI (m.1 20 - 1)), (0, vR 17)]) rfl rfl ?_
              refine g_iinc (n := 5) (lo' := [(4, vI z2), (3, vR (76 + m.2.2.2.length)), (2, vI n_1), (1, vI (m.1 20 - 1)), (0, vR 17)]) rfl rfl rfl ?_
              refine g_goto rfl ?_
              exact ih _ (by omega) (i + (-1)) z2 _ (by omega) (by omega) rfl
        exact L45 _ _ _ _ (by omega) (by omega) rfl
      · intro kk7
        refine g_iload_n (n := 2) rfl rfl ?_
        refine g_ldci (x := 64512) rfl (by decide) rfl ?_
        refine g_icmp_ge (by omega) (by omega) (by decide) (by decide) rfl ?_ ?_
        · intro kk8
          refine g_iload_n (n := 2) rfl rfl ?_
          refine g_newa (x := n_1) rfl (by omega) (by omega) (Nat.le_of_ble_eq_true rfl) (show 0 + Int.toNat n_1 ≤ 64514 by omega) ?_
          rw [kT_app, kl_len]
          refine g_astore_n (n := 3) (lo' := [(2, vI n_1), (1, vI (m.1 20 - 1)), (0, vR 17)]) rfl rfl ?_
          refine g_iload_n (n := 1) rfl rfl ?_
          refine g_istore (n := 4) (lo' := [(3, vR (76 + m.2.2.2.length)), (2, vI n_1), (1, vI (m.1 20 - 1)), (0, vR 17)]) rfl rfl ?_
          refine g_iload_n (n := 2) rfl rfl ?_
          refine g_iconst rfl ?_
          refine g_isub rfl ?_
          refine g_istore (n := 5) (lo' := [(4, vI (m.1 20 - 1)), (3, vR (76 + m.2.2.2.length)), (2, vI n_1), (1, vI (m.1 20 - 1)), (0, vR 17)]) rfl rfl ?_
          have L45 : ∀ (n : Nat) (i p : Int) (f : Int → Int), (-1 ≤ i ∧ i < n_1) → (0 ≤ i → 0 ≤ p ∧ p ≤ 64511) → (i + 1).toNat = n → cg_G V mX7_pathToLast d q (R_A (fun a m' => (kI m') ∧ (fs [] [] m m') ∧ pth m' (.inr (.inr a)))) 45 [(5, vI i), (4, vI p), (3, vR (76 + m.2.2.2.length)), (2, vI n_1), (1, vI (m.1 20 - 1)), (0, vR 17)] [] (kl (kT m (cI (Int.toNat n_1) f))) (0 + 1) (0 + Int.toNat n_1) := by
            intro n
            induction n using Nat.strongRecOn with
            | _ n ih =>
              intro i p f hi hp hn
              refine g_iload (n := 5) rfl rfl ?_
              refine g_if_lt (by omega) (by omega) rfl ?_ ?_
              · intro kb
                refine g_new (fs := [vI 0, vE 0]) rfl rfl (Nat.le_of_ble_eq_true rfl) (show 0 + Int.toNat n_1 + 2 ≤ 64514 by omega) ?_
                rw [kT_app, kl_len, kT_len]
                refine g_dup rfl rfl ?_
                refine g_iload_n (n := 2) rfl rfl ?_
                refine g_aload_n (n := 3) rfl rfl ?_
                have hget : (kl (kT (kT m (cI (Int.toNat n_1) f)) (.inr (4, [vI 0, vE 0]))))[76 + (m.2.2.2.length + 1)]? = some (.inr (4, [vI 0, vE 0])) := by have h9 := kT_get (kT m (cI (Int.toNat n_1) f)) (.inr (4, [vI 0, vE 0])); rw [kT_len] at h9; exact h9
                refine g_invi (ps := [vR (76 + m.2.2.2.length), vI n_1]) (r := [vR (76 + (m.2.2.2.length + 1))]) (as := [vR (76 + (m.2.2.2.length + 1)), vI n_1, vR (76 + m.2.2.2.length)]) rfl rfl rfl rfl rfl rfl (c_X5 (d := d - 1) (q := q - (3 + 19)) (by omega) (by omega) hget) rfl rfl (by omega) (show 3 + 19 ≤ q by omega) (Nat.le_of_ble_eq_true rfl) (show 0 + Int.toNat n_1 + 2 + 0 ≤ 64514 by omega) (Nat.le_of_ble_eq_true rfl) ?_
                rintro _ rfl
                have hset := kT_set1 (kT m (cI (Int.toNat n_1) f)) (.inr (4, [vI 0, vE 0])) (.inr (4, [vI n_1, vR (76 + m.2.2.2.length)]))
                rw [kT_len] at hset
                have hp9 := pth_1 m (x := n_1) (n := Int.toNat n_1) (f := f) (by omega) (by omega)
                refine g_weq (w' := kl (kT (kT m (cI (Int.toNat n_1) f)) (.inr (4, [vI n_1, vR (76 + m.2.2.2.length)])))) (by rw [hset]; exact cw_W_rf _) ?_
                refine g_aret rfl rfl ?_
                exact ⟨_, _, rfl, hm, fs_T (fs_T (fs_rf m) _) _, hp9⟩
              · intro kb
                have hp := hp (by omega)
                refine g_aload_n (n := 3) rfl rfl ?_
                refine g_iload (n := 5) rfl rfl ?_
                refine g_aload_n (n := 0) rfl rfl ?_
                refine g_getf (v := vR 18) rfl (kl_17 _) rfl ?_
                refine g_iload (n := 4) rfl rfl ?_
                refine g_lald (f := m.2.1 18) rfl (kl_18 _) (by decide) (by omega) (by omega) ?_
                refine g_bipush (by decide) rfl ?_
                refine g_lshr rfl ?_
                intro z1 hz1 hz2 hz3
                refine g_l2i rfl ?_
                refine g_iast (f := f) rfl (kT_get _ _) (by omega) (by omega) (by omega) ?_
                rw [kT_set1]
                refine g_aload_n (n := 0) rfl rfl ?_
                refine g_iload (n := 4) rfl rfl ?_
                refine c_vI (i := 17) (ps := [vI p]) (r := []) (as := [vR 17, vI p]) (cs' := 0 + 1) (sl' := 0 + Int.toNat n_1) rfl rfl rfl rfl rfl rfl (kl_17 _) (c_aheadOf (d := d - 1) (q := q - (2 + 19)) (by omega) (by omega) (show kI (kT m _) from hm) (a := p) (by omega)) (by omega) (show 2 + 19 ≤ q by omega) (Nat.le_of_ble_eq_true rfl) (show 0 + Int.toNat n_1 + 0 ≤ 64514 by omega) rfl rfl rfl ?_
                rintro z2 m2 ⟨rfl, p2⟩
                have ha : m.2.1 18 p / 524288 % 131072 < 64512 := (h_kW p hp.1 (by omega)).2
                have p3 : z2 = m.2.1 18 p / 524288 % 131072 := p2
                refine g_istore (n := 4) (lo' := [(5, vI i), (3, vR (76 + m.2.2.2.length)), (2, vI n_1), (1, vI (m.1 20 - 1)), (0, vR 17)]) rfl rfl ?_
                refine g_iinc (n := 5) (lo' := [(4, vI z2), (3, vR (76 + m.2.2.2.length)), (2, vI n_1), (1, vI (m.1 20 - 1)), (0, vR 17)]) rfl rfl rfl ?_
                refine g_goto rfl ?_
                exact ih _ (by omega) (i + (-1)) z2 _ (by omega) (by omega) rfl
          exact L45 _ _ _ _ (by omega) (by omega) rfl
        · intro kk9
          refine g_iinc (n := 2) (lo' := [(3, vI p_1), (1, vI (m.1 20 - 1)), (0, vR 17)]) rfl rfl rfl ?_
          refine g_aload_n (n := 0) rfl rfl ?_
          refine g_iload_n (n := 3) rfl rfl ?_
          refine c_vI (i := 17) (ps := [vI p_1]) (r := []) (as := [vR 17, vI p_1]) (cs' := 0) (sl' := 0) rfl rfl rfl rfl rfl rfl (kl_17 _) (c_aheadOf (d := d - 1) (q := q - (2 + 19)) (by omega) (by omega) hm (a := p_1) (show 0 ≤ p_1 ∧ p_1 ≤ 64511 by omega)) (by omega) (show 2 + 19 ≤ q by omega) (Nat.le_of_ble_eq_true rfl) (Nat.le_of_ble_eq_true rfl) rfl rfl rfl ?_
          rintro z10 m11 ⟨rfl, p13⟩
          have ha := (h_kW p_1 (by omega) (by omega)).2
          rw [← p13] at ha
          refine g_istore_n (n := 3) (lo' := [(2, vI (n_1 + 1)), (1, vI (m.1 20 - 1)), (0, vR 17)]) rfl rfl ?_
          refine g_goto rfl ?_
          exact ih11_1 _ (by omega) (n_1 + 1) z10 (by omega) (by omega) (by omega) rfl
  exact L11_1 _ 0 (m.1 20 - 1) (by omega) (by omega) (by omega) rfl
theorem c_seek {V : cg_V} {d q : Nat} (hd : 5 ≤ d) (hq : 131 ≤ q) {m : kM} (hm : kI m) {s g : Int} (h_s : 0 ≤ s ∧ s ≤ 524287) (h_g : (-2147483648) ≤ g ∧ g ≤ 2147483647) (h_kW : kW m) : cg_S V d q mX7_seek [vR 17, vI s, vI g] (kl m) (R_A (fun a m' => (kI m') ∧ (fs [20, 21] [22, 23, 24, 25, 26, 27, 28, 18, 19, 20] m m') ∧ kW m' ∧ pth m' (.inr (.inr a)))) := by
  have hf0 : fs [20, 21] [22, 23, 24, 25, 26, 27, 28, 18, 19, 20] m m := fs_rf m
  refine cg_of (List.mem_of_getElem? (show ae_MT[36]? = some mX7_seek from rfl)) (Nat.le_of_ble_eq_true rfl) ?_
  show cg_G V mX7_seek d q _ 0 [(0, vR 17), (1, vI s), (2, vI g)] [] (kl m) 0 0
  refine g_aload_n (n := 0) rfl rfl ?_
  refine c_vV (i := 17) (ps := []) (r := []) (as := [vR 17]) (cs' := 0) (sl' := 0) rfl rfl rfl rfl rfl rfl (kl_17 _) (c_sortDoors (d := d - 1) (q := q - (3 + 19)) (by omega) (by omega) hm  ) (by omega) (show 3 + 19 ≤ q by omega) (Nat.le_of_ble_eq_true rfl) (Nat.le_of_ble_eq_true rfl) rfl rfl rfl ?_
  rintro m2 ⟨hm4, hc5⟩
  have hf6 : fs [20, 21] [22, 23, 24, 25, 26, 27, 28, 18, 19, 20] m m2 := fs_tr hf0 (fs_le (fs_of hc5) rfl rfl)
  have t7 : kW m2 := kW_fr hc5 rfl rfl h_kW
  refine g_aload_n (n := 0) rfl rfl ?_
  refine g_iconst rfl ?_
  refine g_putF (m' := (kF m2 20 0)) rfl (kl_17 _) rfl rfl rfl rfl (kF_20 _ _) ?_
  have hm8 : kI (kF m2 20 0) := kI_F hm4 20 (show (0 : Int) ≤ 0 by omega) (show 0 ≤ (64512 : Int) by omega)
  have hf9 : fs [20, 21] [22, 23, 24, 25, 26, 27, 28, 18, 19, 20] m (kF m2 20 0) := fs_F hf6 20 _ rfl
  refine g_aload_n (n := 0) rfl rfl ?_
  refine g_iload_n (n := 1) rfl rfl ?_
  refine g_iconst rfl ?_
  refine g_iconst rfl ?_
  have h10 : (kF m2 20 0).1 20 = 0 := rfl
  refine c_vI (i := 17) (ps := [vI 0, vI 0, vI s]) (r := []) (as := [vR 17, vI s, vI 0, vI 0]) (cs' := 0) (sl' := 0) rfl rfl rfl rfl rfl rfl (kl_17 _) (c_reach2 (d := d - 1) (q := q - (7 + 19)) (by omega) (by omega) hm8 (s := s) (a := 0) (c := 0) (show 0 ≤ s ∧ s ≤ 524287 by omega) (show 0 ≤ 0 ∧ 0 ≤ 64511 by omega) (show 0 ≤ 0 ∧ 0 ≤ 99 by omega) t7) (by omega) (show 7 + 19 ≤ q by omega) (Nat.le_of_ble_eq_true rfl) (Nat.le_of_ble_eq_true rfl) rfl rfl rfl ?_
  rintro z11 m12 ⟨hm14, hc15, p16, p17, p18⟩
  have hf19 : fs [20, 21] [22, 23, 24, 25, 26, 27, 28, 18, 19, 20] m m12 := fs_tr hf9 (fs_le (fs_of hc15) rfl rfl)
  refine g_pop rfl rfl ?_
  refine g_iload_n (n := 1) rfl rfl ?_
  refine g_iload_n (n := 2) rfl rfl ?_
  refine c_sI (ps := [vI g, vI s]) (r := []) (as := [vI s, vI g]) (cs' := 0) (sl' := 0) rfl rfl rfl rfl rfl rfl (c_fits (d := d - 1) (q := q - (2 + 19)) (by omega) (by omega) hm14 (s := s) (g := g) (show (-2147483648) ≤ s ∧ s ≤ 2147483647 by omega) (show (-2147483648) ≤ g ∧ g ≤ 2147483647 by omega)) (by omega) (show 2 + 19 ≤ q by omega) (Nat.le_of_ble_eq_true rfl) (Nat.le_of_ble_eq_true rfl) rfl rfl rfl ?_
  rintro z20 m21 ⟨rfl, p23⟩
  refine g_istore_n (n := 3) (lo' := [(0, vR 17), (1, vI s), (2, vI g)]) rfl rfl ?_
  refine g_iconst rfl ?_
  refine g_istore (n := 4) (lo' := [(3, vI z20), (0, vR 17), (1, vI s), (2, vI g)]) rfl rfl ?_
  have L26_1 : ∀ (n26_1 : Nat) (f_1 : Int) (p_1 : Int) (mL1 : kM), (kI mL1) → (fs [20, 21] [22, 23, 24, 25, 26, 27, 28, 18, 19, 20] m mL1) → (0 ≤ f_1 ∧ f_1 ≤ 1) → (0 ≤ p_1 ∧ p_1 ≤ 64512) → (kW mL1) → ((64512 - p_1).toNat) = n26_1 → cg_G V mX7_seek d q (R_A (fun a m' => (kI m') ∧ (fs [20, 21] [22, 23, 24, 25, 26, 27, 28, 18, 19, 20] m m') ∧ kW m' ∧ pth m' (.inr (.inr a)))) 26 [(4, vI p_1), (3, vI f_1), (0, vR 17), (1, vI s), (2, vI g)] [] (kl mL1) 0 0 := by
    intro n26_1
    induction n26_1 using Nat.strongRecOn with
    | _ n26_1 ih26_1 =>
      intro f_1 p_1 mL1 hmL1 hfL1 i24 i25 i26 q27
      refine g_iload (n := 4) rfl rfl ?_
      refine g_aload_n (n := 0) rfl rfl ?_
      have h28 : 0 ≤ mL1.1 20 ∧ mL1.1 20 ≤ 64512 := hmL1.1 20
      refine g_getf (v := vI (mL1.1 20)) rfl (kl_17 _) rfl ?_
      refine g_icmp_ge (by omega) (by omega) (by omega) (by omega) rfl ?_ ?_
      · intro kk29
        refine g_iload_n (n := 3) rfl rfl ?_
        refine g_if_eq (by omega) (by omega) rfl ?_ ?_
        · intro kk30
          refine g_new (fs := [vI 0, vE 0]) rfl rfl (Nat.le_of_ble_eq_true rfl) (Nat.le_of_ble_eq_true rfl) ?_
          rw [kT_app, kl_len]
          refine g_dup rfl rfl ?_
          refine g_iconst rfl ?_
          refine g_iconst rfl ?_
          refine g_newa (x := 0) rfl (by omega) (by omega) (Nat.le_of_ble_eq_true rfl) (Nat.le_of_ble_eq_true rfl) ?_
          rw [kT_app, kl_len, kT_len]
          refine g_invi (ps := [vR (76 + (mL1.2.2.2.length + 1)), vI (-1)]) (r := [vR (76 + mL1.2.2.2.length)]) (as := [vR (76 + mL1.2.2.2.length), vI (-1), vR (76 + (mL1.2.2.2.length + 1))]) rfl rfl rfl rfl rfl rfl (c_X5 (d := d - 1) (q := q - (3 + 19)) (by omega) (by omega) (kT_get0 _ _ _)) rfl rfl (by omega) (show 3 + 19 ≤ q by omega) (Nat.le_of_ble_eq_true rfl) (Nat.le_of_ble_eq_true rfl) (Nat.le_of_ble_eq_true rfl) ?_
          rintro _ rfl
          refine g_weq (w' := kl (kT (kT mL1 (.inr (4, [vI (-1), vR (76 + (mL1.2.2.2.length + 1))]))) (cI (Int.toNat 0) (fun _ => 0)))) (by rw [kT_set0]; exact cw_W_rf _) ?_
          have hp35 := pth_0 mL1 (x := -1) (n := Int.toNat 0) (f := fun _ => 0) (by decide) (by decide)
          obtain ⟨m31, e32⟩ : ∃ x : kM, x = kT (kT mL1 (.inr (4, [vI (-1), vR (76 + (mL1.2.2.2.length + 1))]))) (cI (Int.toNat 0) (fun _ => 0)) := ⟨_, rfl⟩
          rw [← e32] at hp35
          rw [← e32]
          have hm33 : kI m31 := by rw [e32]; exact hmL1
          have hc34 : fs [] [] mL1 m31 := by rw [e32]; exact fs_T (fs_T (fs_rf _) _) _
          have hf36 : fs [20, 21] [22, 23, 24, 25, 26, 27, 28, 18, 19, 20] m m31 := fs_tr hfL1 (fs_le hc34 rfl rfl)
          have h37 : m31.1 20 = mL1.1 20 := hc34.1 20 rfl
          have h38 : 0 ≤ m31.1 20 ∧ m31.1 20 ≤ 64512 := hm33.1 20
          have t39 : kW m31 := by rw [e32]; exact i26
          obtain ⟨p40i, p40j, p40x, p40n, p40f, e41, g42, g43, g44, g45⟩ := hp35
          rw [e41]
          refine g_astore (n := 4) (lo' := [(3, vI f_1), (0, vR 17), (1, vI s), (2, vI g)]) rfl rfl ?_
          refine g_aload_n (n := 0) rfl rfl ?_
          refine c_vV (i := 17) (ps := []) (r := []) (as := [vR 17]) (cs' := 2) (sl' := 2) rfl rfl rfl rfl rfl rfl (kl_17 _) (c_wipe (d := d - 1) (q := q - (2 + 19)) (by omega) (by omega) hm33  ) (by omega) (show 2 + 19 ≤ q by omega) (Nat.le_of_ble_eq_true rfl) (Nat.le_of_ble_eq_true rfl) rfl rfl rfl ?_
          rintro m47 ⟨hm49, hc50⟩
          have hf51 : fs [20, 21] [22, 23, 24, 25, 26, 27, 28, 18, 19, 20] m m47 := fs_tr hf36 (fs_le (fs_of hc50) rfl rfl)
          have h52 : m47.1 20 = m31.1 20 := hc50.1 20 rfl
          have h53 : 0 ≤ m47.1 20 ∧ m47.1 20 ≤ 64512 := hm49.1 20
          have t54 : kW m47 := kW_fr hc50 rfl rfl t39
          refine g_aload (n := 4) rfl rfl ?_
          refine g_aret rfl rfl ?_
          exact ⟨_, _, rfl, hm49, hf51, t54, ⟨p40i, p40j, p40x, p40n, p40f, rfl, by rw [hc50.2.2]; exact g42, by rw [hc50.2.2]; exact g43, g44, g45⟩⟩
        · intro kk55
          refine g_aload_n (n := 0) rfl rfl ?_
          refine c_vA (i := 17) (ps := []) (r := []) (as := [vR 17]) (cs' := 2) (sl' := 64514) rfl rfl rfl rfl rfl rfl (kl_17 _) (c_pathToLast (d := d - 1) (q := q - (6 + 19)) (by omega) (by omega) hmL1  i26) (by omega) (show 6 + 19 ≤ q by omega) (Nat.le_of_ble_eq_true rfl) (Nat.le_of_ble_eq_true rfl) rfl rfl rfl ?_
          rintro a58 m57 ⟨hm59, hc60, hp61⟩
          have hf62 : fs [20, 21] [22, 23, 24, 25, 26, 27, 28, 18, 19, 20] m m57 := fs_tr hfL1 (fs_le hc60 rfl rfl)
          have h63 : m57.1 20 = mL1.1 20 := hc60.1 20 rfl
          have h64 : 0 ≤ m57.1 20 ∧ m57.1 20 ≤ 64512 := hm59.1 20
          have t65 : kW m57 := fun p a b => by rw [hc60.2.1 18 rfl]; exact i26 p a b
          obtain ⟨p66i, p66j, p66x, p66n, p66f, e67, g68, g69, g70, g71⟩ := hp61
          rw [e67]
          refine g_goto rfl ?_
          refine g_astore (n := 4) (lo' := [(3, vI f_1), (0, vR 17), (1, vI s), (2, vI g)]) rfl rfl ?_
          refine g_aload_n (n := 0) rfl rfl ?_
          refine c_vV (i := 17) (ps := []) (r := []) (as := [vR 17]) (cs' := 2) (sl' := 64514) rfl rfl rfl rfl rfl rfl (kl_17 _) (c_wipe (d := d - 1) (q := q - (2 + 19)) (by omega) (by omega) hm59  ) (by omega) (show 2 + 19 ≤ q by omega) (Nat.le_of_ble_eq_true rfl) (Nat.le_of_ble_eq_true rfl) rfl rfl rfl ?_
          rintro m73 ⟨hm75, hc76⟩
          have hf77 : fs [20, 21] [22, 23, 24, 25, 26, 27, 28, 18, 19, 20] m m73 := fs_tr hf62 (fs_le (fs_of hc76) rfl rfl)
          have h78 : m73.1 20 = m57.1 20 := hc76.1 20 rfl
          have h79 : 0 ≤ m73.1 20 ∧ m73.1 20 ≤ 64512 := hm75.1 20
          have t80 : kW m73 := kW_fr hc76 rfl rfl t65
          refine g_aload (n := 4) rfl rfl ?_
          refine g_aret rfl rfl ?_
          exact ⟨_, _, rfl, hm75, hf77, t80, ⟨p66i, p66j, p66x, p66n, p66f, rfl, by rw [hc76.2.2]; exact g68, by rw [hc76.2.2]; exact g69, g70, g71⟩⟩
      · intro kk81
        refine g_iload (n := 4) rfl rfl ?_
        refine g_ldci (x := 64512) rfl (by decide) rfl ?_
        refine g_icmp_ge (by omega) (by omega) (by decide) (by decide) rfl ?_ ?_
        · intro kk82
          exfalso; omega
        · intro kk83
          refine g_iload_n (n := 3) rfl rfl ?_
          refine g_if_ne (by omega) (by omega) rfl ?_ ?_
          · intro kk84
            refine g_iload_n (n := 3) rfl rfl ?_
            refine g_if_eq (by omega) (by omega) rfl ?_ ?_
            · intro kk85
              exfalso; omega
            · intro kk86
              refine g_aload_n (n := 0) rfl rfl ?_
              refine c_vA (i := 17) (ps := []) (r := []) (as := [vR 17]) (cs' := 2) (sl' := 64514) rfl rfl rfl rfl rfl rfl (kl_17 _) (c_pathToLast (d := d - 1) (q := q - (6 + 19)) (by omega) (by omega) hmL1  i26) (by omega) (show 6 + 19 ≤ q by omega) (Nat.le_of_ble_eq_true rfl) (Nat.le_of_ble_eq_true rfl) rfl rfl rfl ?_
              rintro a89 m88 ⟨hm90, hc91, hp92⟩
              have hf93 : fs [20, 21] [22, 23, 24, 25, 26, 27, 28, 18, 19, 20] m m88 := fs_tr hfL1 (fs_le hc91 rfl rfl)
              have h94 : m88.1 20 = mL1.1 20 := hc91.1 20 rfl
              have h95 : 0 ≤ m88.1 20 ∧ m88.1 20 ≤ 64512 := hm90.1 20
              have t96 : kW m88 := fun p a b => by rw [hc91.2.1 18 rfl]; exact i26 p a b
              obtain ⟨p97i, p97j, p97x, p97n, p97f, e98, g99, g100, g101, g102⟩ := hp92
              rw [e98]
              refine g_goto rfl ?_
              refine g_astore (n := 4) (lo' := [(3, vI f_1), (0, vR 17), (1, vI s), (2, vI g)]) rfl rfl ?_
              refine g_aload_n (n := 0) rfl rfl ?_
              refine c_vV (i := 17) (ps := []) (r := []) (as := [vR 17]) (cs' := 2) (sl' := 64514) rfl rfl rfl rfl rfl rfl (kl_17 _) (c_wipe (d := d - 1) (q := q - (2 + 19)) (by omega) (by omega) hm90  ) (by omega) (show 2 + 19 ≤ q by omega) (Nat.le_of_ble_eq_true rfl) (Nat.le_of_ble_eq_true rfl) rfl rfl rfl ?_
              rintro m104 ⟨hm106, hc107⟩
              have hf108 : fs [20, 21] [22, 23, 24, 25, 26, 27, 28, 18, 19, 20] m m104 := fs_tr hf93 (fs_le (fs_of hc107) rfl rfl)
              have h109 : m104.1 20 = m88.1 20 := hc107.1 20 rfl
              have h110 : 0 ≤ m104.1 20 ∧ m104.1 20 ≤ 64512 := hm106.1 20
              have t111 : kW m104 := kW_fr hc107 rfl rfl t96
              refine g_aload (n := 4) rfl rfl ?_
              refine g_aret rfl rfl ?_
              exact ⟨_, _, rfl, hm106, hf108, t111, ⟨p97i, p97j, p97x, p97n, p97f, rfl, by rw [hc107.2.2]; exact g99, by rw [hc107.2.2]; exact g100, g101, g102⟩⟩
          · intro kk112
            refine g_aload_n (n := 0) rfl rfl ?_
            refine g_iload (n := 4) rfl rfl ?_
            refine g_iload_n (n := 2) rfl rfl ?_
            refine c_vI (i := 17) (ps := [vI g, vI p_1]) (r := []) (as := [vR 17, vI p_1, vI g]) (cs' := 0) (sl' := 0) rfl rfl rfl rfl rfl rfl (kl_17 _) (c_spread2 (d := d - 1) (q := q - (6 + 19)) (by omega) (by omega) hmL1 (a := p_1) (g := g) (show 0 ≤ p_1 ∧ p_1 ≤ 64511 by omega) (show (-2147483648) ≤ g ∧ g ≤ 2147483647 by omega) i26) (by omega) (show 6 + 19 ≤ q by omega) (Nat.le_of_ble_eq_true rfl) (Nat.le_of_ble_eq_true rfl) rfl rfl rfl ?_
            rintro z113 m114 ⟨hm116, hc117, p118, p119, p120⟩
            have hf121 : fs [20, 21] [22, 23, 24, 25, 26, 27, 28, 18, 19, 20] m m114 := fs_tr hfL1 (fs_le (fs_of hc117) rfl rfl)
            refine g_istore_n (n := 3) (lo' := [(4, vI p_1), (0, vR 17), (1, vI s), (2, vI g)]) rfl rfl ?_
            refine g_iinc (n := 4) (lo' := [(3, vI z113), (0, vR 17), (1, vI s), (2, vI g)]) rfl rfl rfl ?_
            refine g_goto rfl ?_
            exact ih26_1 _ (by omega) z113 (p_1 + 1) m114 hm116 hf121 (by omega) (by omega) p118 rfl
  exact L26_1 _ z20 0 m12 hm14 hf19 (by omega) (by omega) p16 rfl
