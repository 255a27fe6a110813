/-! ===== contracts: the face ===== -/
theorem c_guardsIn {V : cg_V} {d q : Nat} (hd : 1 ≤ d) (hq : 21 ≤ q) {m : kM} (hm : kI m) {r : Int} (h_r : (-2147483648) ≤ r ∧ r ≤ 2147483647) : cg_S V d q mX9_guardsIn [vR 0, vI r] (kl m) (R_I (fun z m' => (m = m') ∧ (-2147483648 ≤ z) ∧ (z < 2147483648))) := by
  refine cg_of (List.mem_of_getElem? (show ae_MT[91]? = some mX9_guardsIn from rfl)) (Nat.le_of_ble_eq_true rfl) ?_
  show cg_G V mX9_guardsIn d q _ 0 [(0, vR 0), (1, vI r)] [] (kl m) 0 0
  refine g_iconst rfl ?_
  refine g_istore_n (n := 2) (lo' := [(0, vR 0), (1, vI r)]) rfl rfl ?_
  refine g_iconst rfl ?_
  refine g_istore_n (n := 3) (lo' := [(2, vI 0), (0, vR 0), (1, vI r)]) rfl rfl ?_
  have L4_1 : ∀ (n4_1 : Nat) (b_1 : Int) (g_1 : Int), ((-2147483648) ≤ b_1 ∧ b_1 ≤ 2147483647) → (0 ≤ g_1 ∧ g_1 ≤ 2) → ((2 - g_1).toNat) = n4_1 → cg_G V mX9_guardsIn d q (R_I (fun z m' => (m = m') ∧ (-2147483648 ≤ z) ∧ (z < 2147483648))) 4 [(3, vI g_1), (2, vI b_1), (0, vR 0), (1, vI r)] [] (kl m) 0 0 := by
    intro n4_1
    induction n4_1 using Nat.strongRecOn with
    | _ n4_1 ih4_1 =>
      intro b_1 g_1 i1 i2 q3
      refine g_iload_n (n := 3) rfl rfl ?_
      refine g_iconst rfl ?_
      refine g_icmp_ge (by omega) (by omega) (by decide) (by decide) rfl ?_ ?_
      · intro kk4
        refine g_iload_n (n := 2) rfl rfl ?_
        refine g_iret rfl rfl ?_
        exact ⟨_, _, rfl, rfl, (by omega), (by omega)⟩
      · intro kk5
        refine g_aload_n (n := 0) rfl rfl ?_
        have h6 : 0 ≤ m.1 1 ∧ m.1 1 ≤ 524287 := hm.1 1
        refine g_getf (v := vI (m.1 1)) rfl (kl_0 _) rfl ?_
        refine g_iload_n (n := 3) rfl rfl ?_
        refine c_sI (ps := [vI g_1, vI (m.1 1)]) (r := []) (as := [vI (m.1 1), vI g_1]) (cs' := 0) (sl' := 0) rfl rfl rfl rfl rfl rfl (c_roomOf (d := d - 1) (q := q - (2 + 19)) (by omega) (by omega) hm (s := m.1 1) (g := g_1) (show (-2147483648) ≤ m.1 1 ∧ m.1 1 ≤ 2147483647 by omega) (show 0 ≤ g_1 ∧ g_1 ≤ 1 by omega)) (by omega) (show 2 + 19 ≤ q by omega) (Nat.le_of_ble_eq_true rfl) (Nat.le_of_ble_eq_true rfl) rfl rfl rfl ?_
        rintro z7 m8 ⟨rfl, p10, p11⟩
        refine g_iload_n (n := 1) rfl rfl ?_
        refine g_icmp_ne (by omega) (by omega) (by omega) (by omega) rfl ?_ ?_
        · intro kk12
          refine g_iinc (n := 3) (lo' := [(2, vI b_1), (0, vR 0), (1, vI r)]) rfl rfl rfl ?_
          refine g_goto rfl ?_
          exact ih4_1 _ (by omega) b_1 (g_1 + 1) (by omega) (by omega) rfl
        · intro kk13
          refine g_iload_n (n := 2) rfl rfl ?_
          refine g_iconst rfl ?_
          refine g_iload_n (n := 3) rfl rfl ?_
          refine g_ishl rfl ?_
          intro z14 h15 h16 h17
          refine g_ior rfl ?_
          intro z19 h20 h21 h22
          refine g_istore_n (n := 2) (lo' := [(3, vI g_1), (0, vR 0), (1, vI r)]) rfl rfl ?_
          refine g_iinc (n := 3) (lo' := [(2, vI z19), (0, vR 0), (1, vI r)]) rfl rfl rfl ?_
          refine g_goto rfl ?_
          exact ih4_1 _ (by omega) z19 (g_1 + 1) (by omega) (by omega) rfl
  exact L4_1 _ 0 0 (by omega) (by omega) rfl
theorem c_judge {V : cg_V} {d q : Nat} (hd : 4 ≤ d) (hq : 106 ≤ q) {m : kM} (hm : kI m) : cg_S V d q mX9_judge [vR 0] (kl m) (R_I (fun z m' => (m = m') ∧ (-1 ≤ z) ∧ (z ≤ 19))) := by
  refine cg_of (List.mem_of_getElem? (show ae_MT[108]? = some mX9_judge from rfl)) (Nat.le_of_ble_eq_true rfl) ?_
  show cg_G V mX9_judge d q _ 0 [(0, vR 0)] [] (kl m) 0 0
  refine g_aload_n (n := 0) rfl rfl ?_
  have h1 : 0 ≤ m.1 1 ∧ m.1 1 ≤ 524287 := hm.1 1
  refine g_getf (v := vI (m.1 1)) rfl (kl_0 _) rfl ?_
  refine g_istore_n (n := 1) (lo' := [(0, vR 0)]) rfl rfl ?_
  refine g_iconst rfl ?_
  refine g_istore_n (n := 2) (lo' := [(1, vI (m.1 1)), (0, vR 0)]) rfl rfl ?_
  have L7_1 : ∀ (n7_1 : Nat) (s_1 : Int) (i_1 : Int), (0 ≤ s_1 ∧ s_1 ≤ 524287) → (0 ≤ i_1 ∧ i_1 ≤ 20) → ((20 - i_1).toNat) = n7_1 → cg_G V mX9_judge d q (R_I (fun z m' => (m = m') ∧ (-1 ≤ z) ∧ (z ≤ 19))) 7 [(2, vI i_1), (1, vI s_1), (0, vR 0)] [] (kl m) 0 0 := by
    intro n7_1
    induction n7_1 using Nat.strongRecOn with
    | _ n7_1 ih7_1 =>
      intro s_1 i_1 i2 i3 q4
      refine g_iload_n (n := 2) rfl rfl ?_
      refine g_aload_n (n := 0) rfl rfl ?_
      have h5 : 0 ≤ m.1 0 ∧ m.1 0 ≤ 20 := hm.1 0
      refine g_getf (v := vI (m.1 0)) rfl (kl_0 _) rfl ?_
      refine g_icmp_ge (by omega) (by omega) (by omega) (by omega) rfl ?_ ?_
      · intro kk6
        refine g_iconst rfl ?_
        refine g_iret rfl rfl ?_
        exact ⟨_, _, rfl, rfl, (by omega), (by omega)⟩
      · intro kk7
        refine g_aload_n (n := 0) rfl rfl ?_
        refine g_getf (v := vR 15) rfl (kl_0 _) rfl ?_
        refine g_iload_n (n := 1) rfl rfl ?_
        refine g_aload_n (n := 0) rfl rfl ?_
        refine g_getf (v := vR 58) rfl (kl_0 _) rfl ?_
        refine g_iload_n (n := 2) rfl rfl ?_
        have h8 : 0 ≤ m.2.1 58 i_1 ∧ m.2.1 58 i_1 ≤ 99 := hm.2 58 i_1 (by omega) (show i_1 < (20 : Int) by omega)
        refine g_iald (f := m.2.1 58) rfl (kl_58 _) (by decide) (by omega) (by omega) ?_
        refine c_vI (i := 15) (ps := [vI (m.2.1 58 i_1), vI s_1]) (r := []) (as := [vR 15, vI s_1, vI (m.2.1 58 i_1)]) (cs' := 0) (sl' := 0) rfl rfl rfl rfl rfl rfl (kl_15 _) (c_after (d := d - 1) (q := q - (10 + 19)) (by omega) (by omega) hm (s := s_1) (c := m.2.1 58 i_1) (show 0 ≤ s_1 ∧ s_1 ≤ 524287 by omega) (show 0 ≤ m.2.1 58 i_1 ∧ m.2.1 58 i_1 ≤ 99 by omega)) (by omega) (show 10 + 19 ≤ q by omega) (Nat.le_of_ble_eq_true rfl) (Nat.le_of_ble_eq_true rfl) rfl rfl rfl ?_
        rintro z9 m10 ⟨rfl, p12, p13⟩
        refine g_istore_n (n := 1) (lo' := [(2, vI i_1), (0, vR 0)]) rfl rfl ?_
        refine g_iload_n (n := 1) rfl rfl ?_
        refine g_iconst rfl ?_
        refine g_icmp_ne (by omega) (by omega) (by decide) (by decide) rfl ?_ ?_
        · intro kk14
          refine g_iinc (n := 2) (lo' := [(1, vI z9), (0, vR 0)]) rfl rfl rfl ?_
          refine g_goto rfl ?_
          exact ih7_1 _ (by omega) z9 (i_1 + 1) (by omega) (by omega) rfl
        · intro kk15
          refine g_iload_n (n := 2) rfl rfl ?_
          refine g_iret rfl rfl ?_
          exact ⟨_, _, rfl, rfl, (by omega), (by omega)⟩
  exact L7_1 _ (m.1 1) 0 (by omega) (by omega) rfl
theorem c_codesOf {V : cg_V} {d q : Nat} (hd : 4 ≤ d) (hq : 106 ≤ q) {m : kM} (hm : kI m) {g : Int} (h_g : 0 ≤ g ∧ g ≤ 1) : cg_S V d q mX9_codesOf [vR 0, vI g] (kl m) (R_I (fun z m' => (m = m') ∧ (0 ≤ z) ∧ (z ≤ 44))) := by
  refine cg_of (List.mem_of_getElem? (show ae_MT[98]? = some mX9_codesOf from rfl)) (Nat.le_of_ble_eq_true rfl) ?_
  show cg_G V mX9_codesOf d q _ 0 [(0, vR 0), (1, vI g)] [] (kl m) 0 0
  refine g_iconst rfl ?_
  refine g_istore_n (n := 2) (lo' := [(0, vR 0), (1, vI g)]) rfl rfl ?_
  refine g_iconst rfl ?_
  refine g_istore_n (n := 3) (lo' := [(2, vI 0), (0, vR 0), (1, vI g)]) rfl rfl ?_
  have L4_1 : ∀ (n4_1 : Nat) (c_1 : Int) (i_1 : Int), (0 ≤ c_1 ∧ c_1 ≤ 44) → (0 ≤ i_1 ∧ i_1 ≤ 44) → (c_1 ≤ i_1) → ((44 - i_1).toNat) = n4_1 → cg_G V mX9_codesOf d q (R_I (fun z m' => (m = m') ∧ (0 ≤ z) ∧ (z ≤ 44))) 4 [(3, vI i_1), (2, vI c_1), (0, vR 0), (1, vI g)] [] (kl m) 0 0 := by
    intro n4_1
    induction n4_1 using Nat.strongRecOn with
    | _ n4_1 ih4_1 =>
      intro c_1 i_1 i1 i2 i3 q4
      refine g_iload_n (n := 3) rfl rfl ?_
      refine g_bipush (by decide) rfl ?_
      refine g_icmp_ge (by omega) (by omega) (by decide) (by decide) rfl ?_ ?_
      · intro kk5
        refine g_iload_n (n := 2) rfl rfl ?_
        refine g_iret rfl rfl ?_
        exact ⟨_, _, rfl, rfl, (by omega), (by omega)⟩
      · intro kk6
        refine g_aload_n (n := 0) rfl rfl ?_
        refine g_getf (v := vR 15) rfl (kl_0 _) rfl ?_
        refine g_aload_n (n := 0) rfl rfl ?_
        have h7 : 0 ≤ m.1 1 ∧ m.1 1 ≤ 524287 := hm.1 1
        refine g_getf (v := vI (m.1 1)) rfl (kl_0 _) rfl ?_
        refine g_iload_n (n := 1) rfl rfl ?_
        refine g_bipush (by decide) rfl ?_
        refine g_imul rfl ?_
        refine g_iload_n (n := 3) rfl rfl ?_
        refine g_iadd rfl ?_
        refine c_vI (i := 15) (ps := [vI ((g * 50) + i_1), vI (m.1 1)]) (r := []) (as := [vR 15, vI (m.1 1), vI ((g * 50) + i_1)]) (cs' := 0) (sl' := 0) rfl rfl rfl rfl rfl rfl (kl_15 _) (c_after (d := d - 1) (q := q - (10 + 19)) (by omega) (by omega) hm (s := m.1 1) (c := ((g * 50) + i_1)) (show 0 ≤ m.1 1 ∧ m.1 1 ≤ 524287 by omega) (show 0 ≤ ((g * 50) + i_1) ∧ ((g * 50) + i_1) ≤ 99 by omega)) (by omega) (show 10 + 19 ≤ q by omega) (Nat.le_of_ble_eq_true rfl) (Nat.le_of_ble_eq_true rfl) rfl rfl rfl ?_
        rintro z8 m9 ⟨rfl, p11, p12⟩
        refine g_iconst rfl ?_
        refine g_icmp_eq (by omega) (by omega) (by decide) (by decide) rfl ?_ ?_
        · intro kk13
          refine g_iinc (n := 3) (lo' := [(2, vI c_1), (0, vR 0), (1, vI g)]) rfl rfl rfl ?_
          refine g_goto rfl ?_
          exact ih4_1 _ (by omega) c_1 (i_1 + 1) (by omega) (by omega) (by omega) rfl
        · intro kk14
          refine g_iinc (n := 2) (lo' := [(3, vI i_1), (0, vR 0), (1, vI g)]) rfl rfl rfl ?_
          refine g_iinc (n := 3) (lo' := [(2, vI (c_1 + 1)), (0, vR 0), (1, vI g)]) rfl rfl rfl ?_
          refine g_goto rfl ?_
          exact ih4_1 _ (by omega) (c_1 + 1) (i_1 + 1) (by omega) (by omega) (by omega) rfl
  exact L4_1 _ 0 0 (by omega) (by omega) (by omega) rfl
theorem c_room {V : cg_V} {d q : Nat} (hd : 2 ≤ d) (hq : 44 ≤ q) {m : kM} (hm : kI m) {r w : Int} (h_r : (-2147483648) ≤ r ∧ r ≤ 2147483647) (h_w : (-2147483648) ≤ w ∧ w ≤ 2147483647) : cg_S V d q mX9_room [vR 0, vI r, vI w] (kl m) (R_I (fun z m' => (m = m') ∧ (-2147483648 ≤ z) ∧ (z < 2147483648))) := by
  refine cg_of (List.mem_of_getElem? (show ae_MT[92]? = some mX9_room from rfl)) (Nat.le_of_ble_eq_true rfl) ?_
  show cg_G V mX9_room d q _ 0 [(0, vR 0), (1, vI r), (2, vI w)] [] (kl m) 0 0
  refine g_aload_n (n := 0) rfl rfl ?_
  refine g_getf (v := vR 3) rfl (kl_0 _) rfl ?_
  refine g_iload_n (n := 1) rfl rfl ?_
  have h1 : 2 ≤ m.1 7 ∧ m.1 7 ≤ 6 := hm.1 7
  refine c_vI (i := 3) (ps := [vI r]) (r := []) (as := [vR 3, vI r]) (cs' := 0) (sl' := 0) rfl rfl rfl rfl rfl rfl (kl_3 _) (c_hasRoom (d := d - 1) (q := q - (2 + 19)) (by omega) (by omega) hm (a := r) (show (-2147483648) ≤ r ∧ r ≤ 2147483647 by omega)) (by omega) (show 2 + 19 ≤ q by omega) (Nat.le_of_ble_eq_true rfl) (Nat.le_of_ble_eq_true rfl) rfl rfl rfl ?_
  rintro z2 m3 ⟨rfl, p5⟩
  refine g_if_ne (by omega) (by omega) rfl ?_ ?_
  · intro kk6
    refine g_iload_n (n := 2) rfl rfl ?_
    have kk7 : w < 0 ∨ 3 < w ∨ w = 0 ∨ w = 1 ∨ w = 2 ∨ w = 3 := by omega
    have J8 : (w < 0 ∨ 3 < w) → cg_G V mX9_room d q (R_I (fun z m' => (m = m') ∧ (-2147483648 ≤ z) ∧ (z < 2147483648))) 101 [(0, vR 0), (1, vI r), (2, vI w)] [] (kl m) 0 0 := by
      intro kk9
      refine g_bipush (by decide) rfl ?_
      refine g_iret rfl rfl ?_
      exact ⟨_, _, rfl, rfl, (by omega), (by omega)⟩
    rcases kk7 with kk7 | kk7 | kk7 | kk7 | kk7 | kk7
    · refine g_tsw_out (tg := 101) (by omega) (by omega) rfl (by omega) (by decide) ?_
      exact J8 (by omega)
    · refine g_tsw_out (tg := 101) (by omega) (by omega) rfl (by omega) (by decide) ?_
      exact J8 (by omega)
    · refine g_tsw_in (tg := 44) (o9 := 29) (by omega) (by omega) rfl (by omega) (by omega) (by rw [kk7]; rfl) (by decide) ?_
      refine g_aload_n (n := 0) rfl rfl ?_
      have h10 : 0 ≤ m.1 1 ∧ m.1 1 ≤ 524287 := hm.1 1
      refine g_getf (v := vI (m.1 1)) rfl (kl_0 _) rfl ?_
      refine g_iload_n (n := 1) rfl rfl ?_
      refine c_sI (ps := [vI r, vI (m.1 1)]) (r := []) (as := [vI (m.1 1), vI r]) (cs' := 0) (sl' := 0) rfl rfl rfl rfl rfl rfl (c_hungryIn (d := d - 1) (q := q - (2 + 19)) (by omega) (by omega) hm (s := m.1 1) (r := r) (show (-2147483648) ≤ m.1 1 ∧ m.1 1 ≤ 2147483647 by omega) (show (-2147483648) ≤ r ∧ r ≤ 2147483647 by omega)) (by omega) (show 2 + 19 ≤ q by omega) (Nat.le_of_ble_eq_true rfl) (Nat.le_of_ble_eq_true rfl) rfl rfl rfl ?_
      rintro z11 m12 ⟨rfl, p14, p15⟩
      refine g_if_eq (by omega) (by omega) rfl ?_ ?_
      · intro kk16
        refine g_iconst rfl ?_
        refine g_iret rfl rfl ?_
        exact ⟨_, _, rfl, rfl, (by omega), (by omega)⟩
      · intro kk17
        refine g_iconst rfl ?_
        refine g_goto rfl ?_
        refine g_iret rfl rfl ?_
        exact ⟨_, _, rfl, rfl, (by omega), (by omega)⟩
    · refine g_tsw_in (tg := 61) (o9 := 46) (by omega) (by omega) rfl (by omega) (by omega) (by rw [kk7]; rfl) (by decide) ?_
      refine g_aload_n (n := 0) rfl rfl ?_
      refine g_iload_n (n := 1) rfl rfl ?_
      refine c_vI (i := 0) (ps := [vI r]) (r := []) (as := [vR 0, vI r]) (cs' := 0) (sl' := 0) rfl rfl rfl rfl rfl rfl (kl_0 _) (c_guardsIn (d := d - 1) (q := q - (4 + 19)) (by omega) (by omega) hm (r := r) (show (-2147483648) ≤ r ∧ r ≤ 2147483647 by omega)) (by omega) (show 4 + 19 ≤ q by omega) (Nat.le_of_ble_eq_true rfl) (Nat.le_of_ble_eq_true rfl) rfl rfl rfl ?_
      rintro z18 m19 ⟨rfl, p21, p22⟩
      refine g_iret rfl rfl ?_
      exact ⟨_, _, rfl, rfl, (by omega), (by omega)⟩
    · refine g_tsw_in (tg := 67) (o9 := 52) (by omega) (by omega) rfl (by omega) (by omega) (by rw [kk7]; rfl) (by decide) ?_
      refine g_aload_n (n := 0) rfl rfl ?_
      have h23 : 0 ≤ m.1 1 ∧ m.1 1 ≤ 524287 := hm.1 1
      refine g_getf (v := vI (m.1 1)) rfl (kl_0 _) rfl ?_
      refine c_sI (ps := [vI (m.1 1)]) (r := []) (as := [vI (m.1 1)]) (cs' := 0) (sl' := 0) rfl rfl rfl rfl rfl rfl (c_keyPlace (d := d - 1) (q := q - (1 + 19)) (by omega) (by omega) hm (s := m.1 1) (show (-2147483648) ≤ m.1 1 ∧ m.1 1 ≤ 2147483647 by omega)) (by omega) (show 1 + 19 ≤ q by omega) (Nat.le_of_ble_eq_true rfl) (Nat.le_of_ble_eq_true rfl) rfl rfl rfl ?_
      rintro z24 m25 ⟨rfl, p27, p28⟩
      refine g_iload_n (n := 1) rfl rfl ?_
      refine g_icmp_ne (by omega) (by omega) (by omega) (by omega) rfl ?_ ?_
      · intro kk29
        refine g_iconst rfl ?_
        refine g_iret rfl rfl ?_
        exact ⟨_, _, rfl, rfl, (by omega), (by omega)⟩
      · intro kk30
        refine g_iconst rfl ?_
        refine g_goto rfl ?_
        refine g_iret rfl rfl ?_
        exact ⟨_, _, rfl, rfl, (by omega), (by omega)⟩
    · refine g_tsw_in (tg := 84) (o9 := 69) (by omega) (by omega) rfl (by omega) (by omega) (by rw [kk7]; rfl) (by decide) ?_
      refine g_aload_n (n := 0) rfl rfl ?_
      refine g_getf (v := vR 3) rfl (kl_0 _) rfl ?_
      have h31 : 0 ≤ m.1 9 ∧ m.1 9 ≤ 5 := hm.1 9
      refine g_getf (v := vI (m.1 9)) rfl (kl_3 _) rfl ?_
      refine g_iload_n (n := 1) rfl rfl ?_
      refine g_icmp_ne (by omega) (by omega) (by omega) (by omega) rfl ?_ ?_
      · intro kk32
        refine g_iconst rfl ?_
        refine g_iret rfl rfl ?_
        exact ⟨_, _, rfl, rfl, (by omega), (by omega)⟩
      · intro kk33
        refine g_iconst rfl ?_
        refine g_goto rfl ?_
        refine g_iret rfl rfl ?_
        exact ⟨_, _, rfl, rfl, (by omega), (by omega)⟩
  · intro kk34
    refine g_bipush (by decide) rfl ?_
    refine g_iret rfl rfl ?_
    exact ⟨_, _, rfl, rfl, (by omega), (by omega)⟩
theorem c_door {V : cg_V} {d q : Nat} (hd : 1 ≤ d) (hq : 21 ≤ q) {m : kM} (hm : kI m) {a w : Int} (h_a : (-2147483648) ≤ a ∧ a ≤ 2147483647) (h_w : (-2147483648) ≤ w ∧ w ≤ 2147483647) : cg_S V d q mX9_door [vR 0, vI a, vI w] (kl m) (R_I (fun z m' => (m = m') ∧ (-3 ≤ z) ∧ (z ≤ 5) ∧ (CDZ m a w z))) := by
  refine cg_of (List.mem_of_getElem? (show ae_MT[93]? = some mX9_door from rfl)) (Nat.le_of_ble_eq_true rfl) ?_
  show cg_G V mX9_door d q _ 0 [(0, vR 0), (1, vI a), (2, vI w)] [] (kl m) 0 0
  refine g_aload_n (n := 0) rfl rfl ?_
  refine g_getf (v := vR 3) rfl (kl_0 _) rfl ?_
  refine g_iload_n (n := 1) rfl rfl ?_
  have h1 : 0 ≤ m.1 8 ∧ m.1 8 ≤ 10 := hm.1 8
  refine c_vI (i := 3) (ps := [vI a]) (r := []) (as := [vR 3, vI a]) (cs' := 0) (sl' := 0) rfl rfl rfl rfl rfl rfl (kl_3 _) (c_hasDoor (d := d - 1) (q := q - (2 + 19)) (by omega) (by omega) hm (a := a) (show (-2147483648) ≤ a ∧ a ≤ 2147483647 by omega)) (by omega) (show 2 + 19 ≤ q by omega) (Nat.le_of_ble_eq_true rfl) (Nat.le_of_ble_eq_true rfl) rfl rfl rfl ?_
  rintro z2 m3 ⟨rfl, p5⟩
  refine g_if_ne (by omega) (by omega) rfl ?_ ?_
  · intro kk6
    refine g_iload_n (n := 2) rfl rfl ?_
    have kk7 : w < 0 ∨ 3 < w ∨ w = 0 ∨ w = 1 ∨ w = 2 ∨ w = 3 := by omega
    have J8 : (w < 0 ∨ 3 < w) → cg_G V mX9_door d q (R_I (fun z m' => (m = m') ∧ (-3 ≤ z) ∧ (z ≤ 5) ∧ (CDZ m a w z))) 84 [(0, vR 0), (1, vI a), (2, vI w)] [] (kl m) 0 0 := by
      intro kk9
      refine g_bipush (by decide) rfl ?_
      refine g_iret rfl rfl ?_
      exact ⟨_, _, rfl, rfl, (by omega), (by omega), (by unfold CDZ; omega)⟩
    rcases kk7 with kk7 | kk7 | kk7 | kk7 | kk7 | kk7
    · refine g_tsw_out (tg := 84) (by omega) (by omega) rfl (by omega) (by decide) ?_
      exact J8 (by omega)
    · refine g_tsw_out (tg := 84) (by omega) (by omega) rfl (by omega) (by decide) ?_
      exact J8 (by omega)
    · refine g_tsw_in (tg := 44) (o9 := 29) (by omega) (by omega) rfl (by omega) (by omega) (by rw [kk7]; rfl) (by decide) ?_
      refine g_aload_n (n := 0) rfl rfl ?_
      refine g_getf (v := vR 3) rfl (kl_0 _) rfl ?_
      refine g_getf (v := vR 4) rfl (kl_3 _) rfl ?_
      refine g_iload_n (n := 1) rfl rfl ?_
      have h10 : 0 ≤ m.2.1 4 a ∧ m.2.1 4 a ≤ 5 := hm.2 4 a (by omega) (show a < (10 : Int) by omega)
      refine g_iald (f := m.2.1 4) rfl (kl_4 _) (by decide) (by omega) (by omega) ?_
      refine g_iret rfl rfl ?_
      exact ⟨_, _, rfl, rfl, (by omega), (by omega), (by unfold CDZ; omega)⟩
    · refine g_tsw_in (tg := 54) (o9 := 39) (by omega) (by omega) rfl (by omega) (by omega) (by rw [kk7]; rfl) (by decide) ?_
      refine g_aload_n (n := 0) rfl rfl ?_
      refine g_getf (v := vR 3) rfl (kl_0 _) rfl ?_
      refine g_getf (v := vR 5) rfl (kl_3 _) rfl ?_
      refine g_iload_n (n := 1) rfl rfl ?_
      have h11 : 0 ≤ m.2.1 5 a ∧ m.2.1 5 a ≤ 5 := hm.2 5 a (by omega) (show a < (10 : Int) by omega)
      refine g_iald (f := m.2.1 5) rfl (kl_5 _) (by decide) (by omega) (by omega) ?_
      refine g_iret rfl rfl ?_
      exact ⟨_, _, rfl, rfl, (by omega), (by omega), (by unfold CDZ; omega)⟩
    · refine g_tsw_in (tg := 64) (o9 := 49) (by omega) (by omega) rfl (by omega) (by omega) (by rw [kk7]; rfl) (by decide) ?_
      refine g_aload_n (n := 0) rfl rfl ?_
      refine g_getf (v := vR 3) rfl (kl_0 _) rfl ?_
      refine g_getf (v := vR 6) rfl (kl_3 _) rfl ?_
      refine g_iload_n (n := 1) rfl rfl ?_
      have h12 : 0 ≤ m.2.1 6 a ∧ m.2.1 6 a ≤ 5 := hm.2 6 a (by omega) (show a < (10 : Int) by omega)
      refine g_iald (f := m.2.1 6) rfl (kl_6 _) (by decide) (by omega) (by omega) ?_
      refine g_iret rfl rfl ?_
      exact ⟨_, _, rfl, rfl, (by omega), (by omega), (by unfold CDZ; omega)⟩
    · refine g_tsw_in (tg := 74) (o9 := 59) (by omega) (by omega) rfl (by omega) (by omega) (by rw [kk7]; rfl) (by decide) ?_
      refine g_aload_n (n := 0) rfl rfl ?_
      refine g_getf (v := vR 3) rfl (kl_0 _) rfl ?_
      refine g_getf (v := vR 7) rfl (kl_3 _) rfl ?_
      refine g_iload_n (n := 1) rfl rfl ?_
      have h13 : 0 ≤ m.2.1 7 a ∧ m.2.1 7 a ≤ 1 := hm.2 7 a (by omega) (show a < (10 : Int) by omega)
      refine g_iald (f := m.2.1 7) rfl (kl_7 _) (by decide) (by omega) (by omega) ?_
      refine g_iret rfl rfl ?_
      exact ⟨_, _, rfl, rfl, (by omega), (by omega), (by unfold CDZ; omega)⟩
  · intro kk14
    refine g_bipush (by decide) rfl ?_
    refine g_iret rfl rfl ?_
    exact ⟨_, _, rfl, rfl, (by omega), (by omega), (by unfold CDZ; omega)⟩
theorem c_guard {V : cg_V} {d q : Nat} (hd : 5 ≤ d) (hq : 129 ≤ q) {m : kM} (hm : kI m) {g w : Int} (h_g : (-2147483648) ≤ g ∧ g ≤ 2147483647) (h_w : (-2147483648) ≤ w ∧ w ≤ 2147483647) : cg_S V d q mX9_guard [vR 0, vI g, vI w] (kl m) (R_I (fun z m' => (m = m') ∧ (-3 ≤ z) ∧ (z ≤ 44))) := by
  refine cg_of (List.mem_of_getElem? (show ae_MT[99]? = some mX9_guard from rfl)) (Nat.le_of_ble_eq_true rfl) ?_
  show cg_G V mX9_guard d q _ 0 [(0, vR 0), (1, vI g), (2, vI w)] [] (kl m) 0 0
  refine g_iload_n (n := 1) rfl rfl ?_
  refine g_if_lt (by omega) (by omega) rfl ?_ ?_
  · intro kk1
    refine g_bipush (by decide) rfl ?_
    refine g_iret rfl rfl ?_
    exact ⟨_, _, rfl, rfl, (by omega), (by omega)⟩
  · intro kk2
    refine g_iload_n (n := 1) rfl rfl ?_
    refine g_iconst rfl ?_
    refine g_icmp_lt (by omega) (by omega) (by decide) (by decide) rfl ?_ ?_
    · intro kk3
      refine g_iload_n (n := 2) rfl rfl ?_
      have kk4 : w < 0 ∨ 2 < w ∨ w = 0 ∨ w = 1 ∨ w = 2 := by omega
      have J5 : (w < 0 ∨ 2 < w) → cg_G V mX9_guard d q (R_I (fun z m' => (m = m') ∧ (-3 ≤ z) ∧ (z ≤ 44))) 64 [(0, vR 0), (1, vI g), (2, vI w)] [] (kl m) 0 0 := by
        intro kk6
        refine g_bipush (by decide) rfl ?_
        refine g_iret rfl rfl ?_
        exact ⟨_, _, rfl, rfl, (by omega), (by omega)⟩
      rcases kk4 with kk4 | kk4 | kk4 | kk4 | kk4
      · refine g_tsw_out (tg := 64) (by omega) (by omega) rfl (by omega) (by decide) ?_
        exact J5 (by omega)
      · refine g_tsw_out (tg := 64) (by omega) (by omega) rfl (by omega) (by decide) ?_
        exact J5 (by omega)
      · refine g_tsw_in (tg := 40) (o9 := 27) (by omega) (by omega) rfl (by omega) (by omega) (by rw [kk4]; rfl) (by decide) ?_
        refine g_aload_n (n := 0) rfl rfl ?_
        have h7 : 0 ≤ m.1 1 ∧ m.1 1 ≤ 524287 := hm.1 1
        refine g_getf (v := vI (m.1 1)) rfl (kl_0 _) rfl ?_
        refine g_iload_n (n := 1) rfl rfl ?_
        refine c_sI (ps := [vI g, vI (m.1 1)]) (r := []) (as := [vI (m.1 1), vI g]) (cs' := 0) (sl' := 0) rfl rfl rfl rfl rfl rfl (c_roomOf (d := d - 1) (q := q - (2 + 19)) (by omega) (by omega) hm (s := m.1 1) (g := g) (show (-2147483648) ≤ m.1 1 ∧ m.1 1 ≤ 2147483647 by omega) (show 0 ≤ g ∧ g ≤ 1 by omega)) (by omega) (show 2 + 19 ≤ q by omega) (Nat.le_of_ble_eq_true rfl) (Nat.le_of_ble_eq_true rfl) rfl rfl rfl ?_
        rintro z8 m9 ⟨rfl, p11, p12⟩
        refine g_iret rfl rfl ?_
        exact ⟨_, _, rfl, rfl, (by omega), (by omega)⟩
      · refine g_tsw_in (tg := 49) (o9 := 36) (by omega) (by omega) rfl (by omega) (by omega) (by rw [kk4]; rfl) (by decide) ?_
        refine g_aload_n (n := 0) rfl rfl ?_
        have h13 : 0 ≤ m.1 1 ∧ m.1 1 ≤ 524287 := hm.1 1
        refine g_getf (v := vI (m.1 1)) rfl (kl_0 _) rfl ?_
        refine g_iload_n (n := 1) rfl rfl ?_
        refine c_sI (ps := [vI g, vI (m.1 1)]) (r := []) (as := [vI (m.1 1), vI g]) (cs' := 0) (sl' := 0) rfl rfl rfl rfl rfl rfl (c_hasOf (d := d - 1) (q := q - (2 + 19)) (by omega) (by omega) hm (s := m.1 1) (g := g) (show (-2147483648) ≤ m.1 1 ∧ m.1 1 ≤ 2147483647 by omega) (show 0 ≤ g ∧ g ≤ 1 by omega)) (by omega) (show 2 + 19 ≤ q by omega) (Nat.le_of_ble_eq_true rfl) (Nat.le_of_ble_eq_true rfl) rfl rfl rfl ?_
        rintro z14 m15 ⟨rfl, p17, p18⟩
        refine g_iret rfl rfl ?_
        exact ⟨_, _, rfl, rfl, (by omega), (by omega)⟩
      · refine g_tsw_in (tg := 58) (o9 := 45) (by omega) (by omega) rfl (by omega) (by omega) (by rw [kk4]; rfl) (by decide) ?_
        refine g_aload_n (n := 0) rfl rfl ?_
        refine g_iload_n (n := 1) rfl rfl ?_
        refine c_vI (i := 0) (ps := [vI g]) (r := []) (as := [vR 0, vI g]) (cs' := 0) (sl' := 0) rfl rfl rfl rfl rfl rfl (kl_0 _) (c_codesOf (d := d - 1) (q := q - (4 + 19)) (by omega) (by omega) hm (g := g) (show 0 ≤ g ∧ g ≤ 1 by omega)) (by omega) (show 4 + 19 ≤ q by omega) (Nat.le_of_ble_eq_true rfl) (Nat.le_of_ble_eq_true rfl) rfl rfl rfl ?_
        rintro z19 m20 ⟨rfl, p22, p23⟩
        refine g_iret rfl rfl ?_
        exact ⟨_, _, rfl, rfl, (by omega), (by omega)⟩
    · intro kk24
      refine g_bipush (by decide) rfl ?_
      refine g_iret rfl rfl ?_
      exact ⟨_, _, rfl, rfl, (by omega), (by omega)⟩
theorem c_count {V : cg_V} {d q : Nat} (hd : 1 ≤ d) (hq : 20 ≤ q) {m : kM} (hm : kI m) {w : Int} (h_w : (-2147483648) ≤ w ∧ w ≤ 2147483647) : cg_S V d q mX9_count [vR 0, vI w] (kl m) (R_I (fun z m' => (m = m') ∧ (-2147483648 ≤ z) ∧ (z < 2147483648))) := by
  refine cg_of (List.mem_of_getElem? (show ae_MT[116]? = some mX9_count from rfl)) (Nat.le_of_ble_eq_true rfl) ?_
  show cg_G V mX9_count d q _ 0 [(0, vR 0), (1, vI w)] [] (kl m) 0 0
  refine g_iload_n (n := 1) rfl rfl ?_
  have kk1 : w < 0 ∨ 8 < w ∨ w = 0 ∨ w = 1 ∨ w = 2 ∨ w = 3 ∨ w = 4 ∨ w = 5 ∨ w = 6 ∨ w = 7 ∨ w = 8 := by omega
  have J2 : (w < 0 ∨ 8 < w) → cg_G V mX9_count d q (R_I (fun z m' => (m = m') ∧ (-2147483648 ≤ z) ∧ (z < 2147483648))) 134 [(0, vR 0), (1, vI w)] [] (kl m) 0 0 := by
    intro kk3
    refine g_bipush (by decide) rfl ?_
    refine g_iret rfl rfl ?_
    exact ⟨_, _, rfl, rfl, (by omega), (by omega)⟩
  rcases kk1 with kk1 | kk1 | kk1 | kk1 | kk1 | kk1 | kk1 | kk1 | kk1 | kk1 | kk1
  · refine g_tsw_out (tg := 134) (by omega) (by omega) rfl (by omega) (by decide) ?_
    exact J2 (by omega)
  · refine g_tsw_out (tg := 134) (by omega) (by omega) rfl (by omega) (by decide) ?_
    exact J2 (by omega)
  · refine g_tsw_in (tg := 52) (o9 := 51) (by omega) (by omega) rfl (by omega) (by omega) (by rw [kk1]; rfl) (by decide) ?_
    refine g_aload_n (n := 0) rfl rfl ?_
    refine g_getf (v := vR 3) rfl (kl_0 _) rfl ?_
    have h4 : 2 ≤ m.1 7 ∧ m.1 7 ≤ 6 := hm.1 7
    refine g_getf (v := vI (m.1 7)) rfl (kl_3 _) rfl ?_
    refine g_iret rfl rfl ?_
    exact ⟨_, _, rfl, rfl, (by omega), (by omega)⟩
  · refine g_tsw_in (tg := 60) (o9 := 59) (by omega) (by omega) rfl (by omega) (by omega) (by rw [kk1]; rfl) (by decide) ?_
    refine g_aload_n (n := 0) rfl rfl ?_
    refine g_getf (v := vR 3) rfl (kl_0 _) rfl ?_
    have h5 : 0 ≤ m.1 8 ∧ m.1 8 ≤ 10 := hm.1 8
    refine g_getf (v := vI (m.1 8)) rfl (kl_3 _) rfl ?_
    refine g_iret rfl rfl ?_
    exact ⟨_, _, rfl, rfl, (by omega), (by omega)⟩
  · refine g_tsw_in (tg := 68) (o9 := 67) (by omega) (by omega) rfl (by omega) (by omega) (by rw [kk1]; rfl) (by decide) ?_
    refine g_aload_n (n := 0) rfl rfl ?_
    have h6 : 0 ≤ m.1 1 ∧ m.1 1 ≤ 524287 := hm.1 1
    refine g_getf (v := vI (m.1 1)) rfl (kl_0 _) rfl ?_
    refine c_sI (ps := [vI (m.1 1)]) (r := []) (as := [vI (m.1 1)]) (cs' := 0) (sl' := 0) rfl rfl rfl rfl rfl rfl (c_hungry (d := d - 1) (q := q - (1 + 19)) (by omega) (by omega) hm (s := m.1 1) (show (-2147483648) ≤ m.1 1 ∧ m.1 1 ≤ 2147483647 by omega)) (by omega) (show 1 + 19 ≤ q by omega) (Nat.le_of_ble_eq_true rfl) (Nat.le_of_ble_eq_true rfl) rfl rfl rfl ?_
    rintro z7 m8 ⟨rfl, p10, p11⟩
    refine g_iret rfl rfl ?_
    exact ⟨_, _, rfl, rfl, (by omega), (by omega)⟩
  · refine g_tsw_in (tg := 76) (o9 := 75) (by omega) (by omega) rfl (by omega) (by omega) (by rw [kk1]; rfl) (by decide) ?_
    refine g_aload_n (n := 0) rfl rfl ?_
    have h12 : 0 ≤ m.1 1 ∧ m.1 1 ≤ 524287 := hm.1 1
    refine g_getf (v := vI (m.1 1)) rfl (kl_0 _) rfl ?_
    refine c_sI (ps := [vI (m.1 1)]) (r := []) (as := [vI (m.1 1)]) (cs' := 0) (sl' := 0) rfl rfl rfl rfl rfl rfl (c_turns (d := d - 1) (q := q - (1 + 19)) (by omega) (by omega) hm (s := m.1 1) (show (-2147483648) ≤ m.1 1 ∧ m.1 1 ≤ 2147483647 by omega)) (by omega) (show 1 + 19 ≤ q by omega) (Nat.le_of_ble_eq_true rfl) (Nat.le_of_ble_eq_true rfl) rfl rfl rfl ?_
    rintro z13 m14 ⟨rfl, p16, p17⟩
    refine g_iret rfl rfl ?_
    exact ⟨_, _, rfl, rfl, (by omega), (by omega)⟩
  · refine g_tsw_in (tg := 84) (o9 := 83) (by omega) (by omega) rfl (by omega) (by omega) (by rw [kk1]; rfl) (by decide) ?_
    refine g_aload_n (n := 0) rfl rfl ?_
    have h18 : 0 ≤ m.1 1 ∧ m.1 1 ≤ 524287 := hm.1 1
    refine g_getf (v := vI (m.1 1)) rfl (kl_0 _) rfl ?_
    refine c_sI (ps := [vI (m.1 1)]) (r := []) (as := [vI (m.1 1)]) (cs' := 0) (sl' := 0) rfl rfl rfl rfl rfl rfl (c_keyPlace (d := d - 1) (q := q - (1 + 19)) (by omega) (by omega) hm (s := m.1 1) (show (-2147483648) ≤ m.1 1 ∧ m.1 1 ≤ 2147483647 by omega)) (by omega) (show 1 + 19 ≤ q by omega) (Nat.le_of_ble_eq_true rfl) (Nat.le_of_ble_eq_true rfl) rfl rfl rfl ?_
    rintro z19 m20 ⟨rfl, p22, p23⟩
    refine g_bipush (by decide) rfl ?_
    refine g_icmp_ge (by omega) (by omega) (by decide) (by decide) rfl ?_ ?_
    · intro kk24
      refine g_iconst rfl ?_
      refine g_iret rfl rfl ?_
      exact ⟨_, _, rfl, rfl, (by omega), (by omega)⟩
    · intro kk25
      refine g_aload_n (n := 0) rfl rfl ?_
      refine g_getf (v := vI (m.1 1)) rfl (kl_0 _) rfl ?_
      refine c_sI (ps := [vI (m.1 1)]) (r := []) (as := [vI (m.1 1)]) (cs' := 0) (sl' := 0) rfl rfl rfl rfl rfl rfl (c_keyPlace (d := d - 1) (q := q - (1 + 19)) (by omega) (by omega) hm (s := m.1 1) (show (-2147483648) ≤ m.1 1 ∧ m.1 1 ≤ 2147483647 by omega)) (by omega) (show 1 + 19 ≤ q by omega) (Nat.le_of_ble_eq_true rfl) (Nat.le_of_ble_eq_true rfl) rfl rfl rfl ?_
      rintro z26 m27 ⟨rfl, p29, p30⟩
      refine g_goto rfl ?_
      refine g_iret rfl rfl ?_
      exact ⟨_, _, rfl, rfl, (by omega), (by omega)⟩
  · refine g_tsw_in (tg := 108) (o9 := 107) (by omega) (by omega) rfl (by omega) (by omega) (by rw [kk1]; rfl) (by decide) ?_
    refine g_aload_n (n := 0) rfl rfl ?_
    have h31 : (-2147483648) ≤ m.1 2 ∧ m.1 2 ≤ 2147483647 := hm.1 2
    refine g_getf (v := vI (m.1 2)) rfl (kl_0 _) rfl ?_
    refine g_iret rfl rfl ?_
    exact ⟨_, _, rfl, rfl, (by omega), (by omega)⟩
  · refine g_tsw_in (tg := 113) (o9 := 112) (by omega) (by omega) rfl (by omega) (by omega) (by rw [kk1]; rfl) (by decide) ?_
    refine g_aload_n (n := 0) rfl rfl ?_
    have h32 : 0 ≤ m.1 0 ∧ m.1 0 ≤ 20 := hm.1 0
    refine g_getf (v := vI (m.1 0)) rfl (kl_0 _) rfl ?_
    refine g_iret rfl rfl ?_
    exact ⟨_, _, rfl, rfl, (by omega), (by omega)⟩
  · refine g_tsw_in (tg := 118) (o9 := 117) (by omega) (by omega) rfl (by omega) (by omega) (by rw [kk1]; rfl) (by decide) ?_
    refine g_aload_n (n := 0) rfl rfl ?_
    refine g_getf (v := vR 31) rfl (kl_0 _) rfl ?_
    have h33 : 0 ≤ m.1 22 ∧ m.1 22 ≤ 8 := hm.1 22
    refine g_getf (v := vI (m.1 22)) rfl (kl_31 _) rfl ?_
    refine g_iret rfl rfl ?_
    exact ⟨_, _, rfl, rfl, (by omega), (by omega)⟩
  · refine g_tsw_in (tg := 126) (o9 := 125) (by omega) (by omega) rfl (by omega) (by omega) (by rw [kk1]; rfl) (by decide) ?_
    refine g_aload_n (n := 0) rfl rfl ?_
    refine g_getf (v := vR 1) rfl (kl_0 _) rfl ?_
    have h34 : 0 ≤ m.1 3 ∧ m.1 3 ≤ 200 := hm.1 3
    refine g_getf (v := vI (m.1 3)) rfl (kl_1 _) rfl ?_
    refine g_iret rfl rfl ?_
    exact ⟨_, _, rfl, rfl, (by omega), (by omega)⟩
theorem c_row {V : cg_V} {d q : Nat} (hd : 1 ≤ d) (hq : 20 ≤ q) {m : kM} (hm : kI m) {c : Int} (h_c : (-2147483648) ≤ c ∧ c ≤ 2147483647) : cg_S V d q mX9_row [vR 0, vI c] (kl m) (R_I (fun z m' => (kI m') ∧ (fr [0] [58] m m') ∧ (((0 ≤ c ∧ c ≤ 99 ∧ m.1 0 < 20) ∧ m'.1 0 = m.1 0 + 1 ∧ z = m.1 0 + 1) ∨ ((c < 0 ∨ 99 < c) ∧ m'.1 0 = m.1 0 ∧ z = -3) ∨ ((0 ≤ c ∧ c ≤ 99 ∧ m.1 0 = 20) ∧ m'.1 0 = m.1 0 ∧ z = -5)))) := by
  have hf0 : fr [0] [58] m m := fr_rf m
  refine cg_of (List.mem_of_getElem? (show ae_MT[106]? = some mX9_row from rfl)) (Nat.le_of_ble_eq_true rfl) ?_
  show cg_G V mX9_row d q _ 0 [(0, vR 0), (1, vI c)] [] (kl m) 0 0
  have h1 : 0 ≤ m.1 0 ∧ m.1 0 ≤ 20 := hm.1 0
  refine g_iload_n (n := 1) rfl rfl ?_
  refine c_sI (ps := [vI c]) (r := []) (as := [vI c]) (cs' := 0) (sl' := 0) rfl rfl rfl rfl rfl rfl (c_isCode (d := d - 1) (q := q - (1 + 19)) (by omega) (by omega) hm (c := c) (show (-2147483648) ≤ c ∧ c ≤ 2147483647 by omega)) (by omega) (show 1 + 19 ≤ q by omega) (Nat.le_of_ble_eq_true rfl) (Nat.le_of_ble_eq_true rfl) rfl rfl rfl ?_
  rintro z2 m3 ⟨rfl, p5⟩
  refine g_if_ne (by omega) (by omega) rfl ?_ ?_
  · intro kk6
    refine g_aload_n (n := 0) rfl rfl ?_
    refine g_getf (v := vI (m.1 0)) rfl (kl_0 _) rfl ?_
    refine g_bipush (by decide) rfl ?_
    refine g_icmp_lt (by omega) (by omega) (by decide) (by decide) rfl ?_ ?_
    · intro kk7
      refine g_aload_n (n := 0) rfl rfl ?_
      refine g_getf (v := vR 58) rfl (kl_0 _) rfl ?_
      refine g_aload_n (n := 0) rfl rfl ?_
      refine g_getf (v := vI (m.1 0)) rfl (kl_0 _) rfl ?_
      refine g_iload_n (n := 1) rfl rfl ?_
      refine g_iAst (f := m.2.1 58) (m' := (kA m 58 (up (m.2.1 58) (m.1 0) c))) rfl (kl_58 _) (by decide) (by omega) (by omega) (kA_58 _ _) ?_
      have hm8 : kI (kA m 58 (up (m.2.1 58) (m.1 0) c)) := kI_U hm 58 rfl (show (0 : Int) ≤ c by omega) (show c ≤ (99 : Int) by omega)
      have hf9 : fr [0] [58] m (kA m 58 (up (m.2.1 58) (m.1 0) c)) := fr_A hf0 58 _ rfl
      refine g_aload_n (n := 0) rfl rfl ?_
      refine g_dup rfl rfl ?_
      refine g_getf (v := vI (m.1 0)) rfl (kl_0 _) rfl ?_
      refine g_iconst rfl ?_
      refine g_iadd rfl ?_
      refine g_putF (m' := (kF (kA m 58 (up (m.2.1 58) (m.1 0) c)) 0 (m.1 0 + 1))) rfl (kl_0 _) rfl rfl rfl rfl (kF_0 _ _) ?_
      have hm10 : kI (kF (kA m 58 (up (m.2.1 58) (m.1 0) c)) 0 (m.1 0 + 1)) := kI_F hm8 0 (show (0 : Int) ≤ (m.1 0 + 1) by omega) (show (m.1 0 + 1) ≤ (20 : Int) by omega)
      have hf11 : fr [0] [58] m (kF (kA m 58 (up (m.2.1 58) (m.1 0) c)) 0 (m.1 0 + 1)) := fr_F hf9 0 _ rfl
      refine g_aload_n (n := 0) rfl rfl ?_
      refine g_getf (v := vI (m.1 0 + 1)) rfl (kl_0 _) rfl ?_
      refine g_iret rfl rfl ?_
      exact ⟨_, _, rfl, hm10, hf11, (by first | (refine Or.inl ⟨by omega, ?_, by omega⟩; show m.1 0 + 1 = m.1 0 + 1; omega) | omega)⟩
    · intro kk12
      refine g_bipush (by decide) rfl ?_
      refine g_iret rfl rfl ?_
      exact ⟨_, _, rfl, hm, hf0, (by first | (refine Or.inl ⟨by omega, ?_, by omega⟩; show m.1 0 + 1 = m.1 0 + 1; omega) | omega)⟩
  · intro kk13
    refine g_bipush (by decide) rfl ?_
    refine g_iret rfl rfl ?_
    exact ⟨_, _, rfl, hm, hf0, (by first | (refine Or.inl ⟨by omega, ?_, by omega⟩; show m.1 0 + 1 = m.1 0 + 1; omega) | omega)⟩
theorem c_burn {V : cg_V} {d q : Nat} (hd : 0 ≤ d) (hq : 0 ≤ q) {m : kM} (hm : kI m) : cg_S V d q mX9_burn [vR 0] (kl m) (R_I (fun z m' => (kI m') ∧ (fr [0] [] m m') ∧ (z = m.1 0) ∧ (m'.1 0 = 0))) := by
  have hf0 : fr [0] [] m m := fr_rf m
  refine cg_of (List.mem_of_getElem? (show ae_MT[107]? = some mX9_burn from rfl)) (Nat.le_of_ble_eq_true rfl) ?_
  show cg_G V mX9_burn d q _ 0 [(0, vR 0)] [] (kl m) 0 0
  have h1 : 0 ≤ m.1 0 ∧ m.1 0 ≤ 20 := hm.1 0
  refine g_aload_n (n := 0) rfl rfl ?_
  refine g_getf (v := vI (m.1 0)) rfl (kl_0 _) rfl ?_
  refine g_istore_n (n := 1) (lo' := [(0, vR 0)]) rfl rfl ?_
  refine g_aload_n (n := 0) rfl rfl ?_
  refine g_iconst rfl ?_
  refine g_putF (m' := (kF m 0 0)) rfl (kl_0 _) rfl rfl rfl rfl (kF_0 _ _) ?_
  have hm2 : kI (kF m 0 0) := kI_F hm 0 (show (0 : Int) ≤ 0 by omega) (show 0 ≤ (20 : Int) by omega)
  have hf3 : fr [0] [] m (kF m 0 0) := fr_F hf0 0 _ rfl
  refine g_iload_n (n := 1) rfl rfl ?_
  refine g_iret rfl rfl ?_
  exact ⟨_, _, rfl, hm2, hf3, (by omega), rfl⟩
theorem c_keep {V : cg_V} {d q : Nat} (hd : 0 ≤ d) (hq : 0 ≤ q) {m : kM} (hm : kI m) {a : Int} (h_a : (-2147483648) ≤ a ∧ a ≤ 2147483647) : cg_S V d q mX9_keep [vR 0, vI a] (kl m) (R_I (fun z m' => (kI m') ∧ (fr [] [59, 60] m m') ∧ (-2147483648 ≤ z) ∧ (z < 2147483648))) := by
  have hf0 : fr [] [59, 60] m m := fr_rf m
  refine cg_of (List.mem_of_getElem? (show ae_MT[114]? = some mX9_keep from rfl)) (Nat.le_of_ble_eq_true rfl) ?_
  show cg_G V mX9_keep d q _ 0 [(0, vR 0), (1, vI a)] [] (kl m) 0 0
  refine g_iload_n (n := 1) rfl rfl ?_
  refine g_if_lt (by omega) (by omega) rfl ?_ ?_
  · intro kk1
    refine g_bipush (by decide) rfl ?_
    refine g_iret rfl rfl ?_
    exact ⟨_, _, rfl, hm, hf0, (by omega), (by omega)⟩
  · intro kk2
    refine g_iload_n (n := 1) rfl rfl ?_
    refine g_iconst rfl ?_
    refine g_icmp_lt (by omega) (by omega) (by decide) (by decide) rfl ?_ ?_
    · intro kk3
      refine g_aload_n (n := 0) rfl rfl ?_
      refine g_getf (v := vR 59) rfl (kl_0 _) rfl ?_
      refine g_iload_n (n := 1) rfl rfl ?_
      refine g_aload_n (n := 0) rfl rfl ?_
      have h4 : 0 ≤ m.1 1 ∧ m.1 1 ≤ 524287 := hm.1 1
      refine g_getf (v := vI (m.1 1)) rfl (kl_0 _) rfl ?_
      refine g_iAst (f := m.2.1 59) (m' := (kA m 59 (up (m.2.1 59) a (m.1 1)))) rfl (kl_59 _) (by decide) (by omega) (by omega) (kA_59 _ _) ?_
      have hm5 : kI (kA m 59 (up (m.2.1 59) a (m.1 1))) := kI_U hm 59 rfl (show ((-1) : Int) ≤ m.1 1 by omega) (show m.1 1 ≤ (524287 : Int) by omega)
      have hf6 : fr [] [59, 60] m (kA m 59 (up (m.2.1 59) a (m.1 1))) := fr_A hf0 59 _ rfl
      refine g_aload_n (n := 0) rfl rfl ?_
      refine g_getf (v := vR 60) rfl (kl_0 _) rfl ?_
      refine g_iload_n (n := 1) rfl rfl ?_
      refine g_aload_n (n := 0) rfl rfl ?_
      have h7 : (-2147483648) ≤ m.1 2 ∧ m.1 2 ≤ 2147483647 := hm.1 2
      refine g_getf (v := vI (m.1 2)) rfl (kl_0 _) rfl ?_
      refine g_iAst (f := m.2.1 60) (m' := (kA (kA m 59 (up (m.2.1 59) a (m.1 1))) 60 (up (m.2.1 60) a (m.1 2)))) rfl (kl_60 _) (by decide) (by omega) (by omega) (kA_60 _ _) ?_
      have hm8 : kI (kA (kA m 59 (up (m.2.1 59) a (m.1 1))) 60 (up (m.2.1 60) a (m.1 2))) := kI_U hm5 60 rfl (show ((-2147483648) : Int) ≤ m.1 2 by omega) (show m.1 2 ≤ (2147483647 : Int) by omega)
      have hf9 : fr [] [59, 60] m (kA (kA m 59 (up (m.2.1 59) a (m.1 1))) 60 (up (m.2.1 60) a (m.1 2))) := fr_A hf6 60 _ rfl
      refine g_aload_n (n := 0) rfl rfl ?_
      refine g_getf (v := vI (m.1 2)) rfl (kl_0 _) rfl ?_
      refine g_iret rfl rfl ?_
      exact ⟨_, _, rfl, hm8, hf9, (by omega), (by omega)⟩
    · intro kk10
      refine g_bipush (by decide) rfl ?_
      refine g_iret rfl rfl ?_
      exact ⟨_, _, rfl, hm, hf0, (by omega), (by omega)⟩
theorem c_heard {V : cg_V} {d q : Nat} (hd : 1 ≤ d) (hq : 22 ≤ q) {m : kM} (hm : kI m) {t a : Int} (h_t : (-2147483648) ≤ t ∧ t ≤ 2147483647) (h_a : (-2147483648) ≤ a ∧ a ≤ 2147483647) : cg_S V d q mX9_heard [vR 0, vI t, vI a] (kl m) (R_I (fun z m' => (kI m') ∧ (fr [22] [32, 33] m m') ∧ (((0 ≤ a ∧ a < m.1 8 ∧ 0 ≤ t ∧ t ≤ 9 ∧ m.1 22 < 8) ∧ m'.1 22 = m.1 22 + 1 ∧ z = m.1 22 + 1) ∨ ((a < 0 ∨ m.1 8 ≤ a) ∧ m'.1 22 = m.1 22 ∧ z = -2) ∨ ((0 ≤ a ∧ a < m.1 8 ∧ (t < 0 ∨ 9 < t)) ∧ m'.1 22 = m.1 22 ∧ z = -3) ∨ ((0 ≤ a ∧ a < m.1 8 ∧ 0 ≤ t ∧ t ≤ 9 ∧ m.1 22 = 8) ∧ m'.1 22 = m.1 22 ∧ z = -5)) ∧ (CHZ m m' t a))) := by
  have hf0 : fr [22] [32, 33] m m := fr_rf m
  refine cg_of (List.mem_of_getElem? (show ae_MT[109]? = some mX9_heard from rfl)) (Nat.le_of_ble_eq_true rfl) ?_
  show cg_G V mX9_heard d q _ 0 [(0, vR 0), (1, vI t), (2, vI a)] [] (kl m) 0 0
  have h1 : 0 ≤ m.1 8 ∧ m.1 8 ≤ 10 := hm.1 8
  have h2 : 0 ≤ m.1 22 ∧ m.1 22 ≤ 8 := hm.1 22
  refine g_aload_n (n := 0) rfl rfl ?_
  refine g_getf (v := vR 3) rfl (kl_0 _) rfl ?_
  refine g_iload_n (n := 2) rfl rfl ?_
  refine c_vI (i := 3) (ps := [vI a]) (r := []) (as := [vR 3, vI a]) (cs' := 0) (sl' := 0) rfl rfl rfl rfl rfl rfl (kl_3 _) (c_hasDoor (d := d - 1) (q := q - (2 + 19)) (by omega) (by omega) hm (a := a) (show (-2147483648) ≤ a ∧ a ≤ 2147483647 by omega)) (by omega) (show 2 + 19 ≤ q by omega) (Nat.le_of_ble_eq_true rfl) (Nat.le_of_ble_eq_true rfl) rfl rfl rfl ?_
  rintro z3 m4 ⟨rfl, p6⟩
  refine g_if_ne (by omega) (by omega) rfl ?_ ?_
  · intro kk7
    refine g_iload_n (n := 1) rfl rfl ?_
    refine g_if_lt (by omega) (by omega) rfl ?_ ?_
    · intro kk8
      refine g_bipush (by decide) rfl ?_
      refine g_iret rfl rfl ?_
      exact ⟨_, _, rfl, hm, hf0, by omega, Or.inr ⟨rfl, rfl, rfl⟩⟩
    · intro kk9
      refine g_iload_n (n := 1) rfl rfl ?_
      refine g_bipush (by decide) rfl ?_
      refine g_icmp_lt (by omega) (by omega) (by decide) (by decide) rfl ?_ ?_
      · intro kk10
        refine g_aload_n (n := 0) rfl rfl ?_
        refine g_getf (v := vR 31) rfl (kl_0 _) rfl ?_
        refine g_iload_n (n := 1) rfl rfl ?_
        refine g_iload_n (n := 2) rfl rfl ?_
        refine c_vI (i := 31) (ps := [vI a, vI t]) (r := []) (as := [vR 31, vI t, vI a]) (cs' := 0) (sl' := 0) rfl rfl rfl rfl rfl rfl (kl_31 _) (c_hear (d := d - 1) (q := q - (3 + 19)) (by omega) (by omega) hm (a := t) (b := a) (show 0 ≤ t ∧ t ≤ 9 by omega) (show 0 ≤ a ∧ a ≤ 9 by omega)) (by omega) (show 3 + 19 ≤ q by omega) (Nat.le_of_ble_eq_true rfl) (Nat.le_of_ble_eq_true rfl) rfl rfl rfl ?_
        rintro z11 m12 ⟨hm14, hc15, p16, p17⟩
        have hf18 : fr [22] [32, 33] m m12 := fr_tr hf0 (fr_le hc15 rfl rfl)
        have h19 : m12.1 8 = m.1 8 := hc15.1 8 rfl
        have h20 : 0 ≤ m12.1 8 ∧ m12.1 8 ≤ 10 := hm14.1 8
        refine g_if_eq (by omega) (by omega) rfl ?_ ?_
        · intro kk21
          refine g_bipush (by decide) rfl ?_
          refine g_iret rfl rfl ?_
          have ch : CHZ m m12 t a := by
            rcases p17 with q | q
            · exact Or.inl ⟨by omega, q.2⟩
            · exact Or.inr ⟨by omega, q.2⟩
          exact ⟨_, _, rfl, hm14, hf18, by omega, ch⟩
        · intro kk22
          refine g_aload_n (n := 0) rfl rfl ?_
          refine g_getf (v := vR 31) rfl (kl_0 _) rfl ?_
          have h23 : 0 ≤ m12.1 22 ∧ m12.1 22 ≤ 8 := hm14.1 22
          refine g_getf (v := vI (m12.1 22)) rfl (kl_31 _) rfl ?_
          refine g_goto rfl ?_
          refine g_iret rfl rfl ?_
          have ch : CHZ m m12 t a := by
            rcases p17 with q | q
            · exact Or.inl ⟨by omega, q.2⟩
            · exact Or.inr ⟨by omega, q.2⟩
          exact ⟨_, _, rfl, hm14, hf18, by omega, ch⟩
      · intro kk24
        refine g_bipush (by decide) rfl ?_
        refine g_iret rfl rfl ?_
        exact ⟨_, _, rfl, hm, hf0, by omega, Or.inr ⟨rfl, rfl, rfl⟩⟩
  · intro kk25
    refine g_bipush (by decide) rfl ?_
    refine g_iret rfl rfl ?_
    exact ⟨_, _, rfl, hm, hf0, by omega, Or.inr ⟨rfl, rfl, rfl⟩⟩
theorem c_forget {V : cg_V} {d q : Nat} (hd : 1 ≤ d) (hq : 21 ≤ q) {m : kM} (hm : kI m) : cg_S V d q mX9_forget [vR 0] (kl m) (R_I (fun z m' => (kI m') ∧ (fr [22] [] m m') ∧ (z = m.1 22) ∧ (m'.1 22 = 0))) := by
  have hf0 : fr [22] [] m m := fr_rf m
  refine cg_of (List.mem_of_getElem? (show ae_MT[110]? = some mX9_forget from rfl)) (Nat.le_of_ble_eq_true rfl) ?_
  show cg_G V mX9_forget d q _ 0 [(0, vR 0)] [] (kl m) 0 0
  have h1 : 0 ≤ m.1 22 ∧ m.1 22 ≤ 8 := hm.1 22
  refine g_aload_n (n := 0) rfl rfl ?_
  refine g_getf (v := vR 31) rfl (kl_0 _) rfl ?_
  refine c_vI (i := 31) (ps := []) (r := []) (as := [vR 31]) (cs' := 0) (sl' := 0) rfl rfl rfl rfl rfl rfl (kl_31 _) (c_unhear (d := d - 1) (q := q - (2 + 19)) (by omega) (by omega) hm  ) (by omega) (show 2 + 19 ≤ q by omega) (Nat.le_of_ble_eq_true rfl) (Nat.le_of_ble_eq_true rfl) rfl rfl rfl ?_
  rintro z2 m3 ⟨hm5, hc6, p7, p8⟩
  have hf9 : fr [22] [] m m3 := fr_tr hf0 (fr_le hc6 rfl rfl)
  refine g_iret rfl rfl ?_
  exact ⟨_, _, rfl, hm5, hf9, (by omega), (by omega)⟩
theorem c_night {V : cg_V} {d q : Nat} (hd : 6 ≤ d) (hq : 142 ≤ q) {m : kM} (hm : kI m) {n w : Int} (h_n : (-2147483648) ≤ n ∧ n ≤ 2147483647) (h_w : (-2147483648) ≤ w ∧ w ≤ 2147483647) : cg_S V d q mX9_night [vR 0, vI n, vI w] (kl m) (R_J (fun z m' => (kI m') ∧ (fr [] [35, 36, 37, 38, 39, 40, 41, 42, 43, 44, 45] m m') ∧ (-9223372036854775808 ≤ z) ∧ (z < 9223372036854775808) ∧ (CNZ m n w z))) := by
  have hf0 : fr [] [35, 36, 37, 38, 39, 40, 41, 42, 43, 44, 45] m m := fr_rf m
  refine cg_of (List.mem_of_getElem? (show ae_MT[112]? = some mX9_night from rfl)) (Nat.le_of_ble_eq_true rfl) ?_
  show cg_G V mX9_night d q _ 0 [(0, vR 0), (1, vI n), (2, vI w)] [] (kl m) 0 0
  refine g_iload_n (n := 1) rfl rfl ?_
  refine c_sI (ps := [vI n]) (r := []) (as := [vI n]) (cs' := 0) (sl' := 0) rfl rfl rfl rfl rfl rfl (c_isNight (d := d - 1) (q := q - (1 + 19)) (by omega) (by omega) hm (c := n) (show (-2147483648) ≤ n ∧ n ≤ 2147483647 by omega)) (by omega) (show 1 + 19 ≤ q by omega) (Nat.le_of_ble_eq_true rfl) (Nat.le_of_ble_eq_true rfl) rfl rfl rfl ?_
  rintro z1 m2 ⟨rfl, p4⟩
  refine g_if_eq (by omega) (by omega) rfl ?_ ?_
  · intro kk5
    refine g_ldc2 (x := (-3)) (by decide) rfl ?_
    refine g_lret rfl rfl ?_
    exact ⟨_, _, rfl, hm, hf0, by omega, by omega, Or.inl ⟨by omega, rfl⟩⟩
  · intro kk6
    refine g_iload_n (n := 2) rfl rfl ?_
    refine g_if_lt (by omega) (by omega) rfl ?_ ?_
    · intro kk7
      refine g_ldc2 (x := (-3)) (by decide) rfl ?_
      refine g_lret rfl rfl ?_
      exact ⟨_, _, rfl, hm, hf0, by omega, by omega, Or.inl ⟨by omega, rfl⟩⟩
    · intro kk8
      refine g_iload_n (n := 2) rfl rfl ?_
      refine g_iconst rfl ?_
      refine g_icmp_le (by omega) (by omega) (by decide) (by decide) rfl ?_ ?_
      · intro kk9
        refine g_iload_n (n := 2) rfl rfl ?_
        refine g_if_ne (by omega) (by omega) rfl ?_ ?_
        · intro kk10
          refine g_aload_n (n := 0) rfl rfl ?_
          refine g_getf (v := vR 31) rfl (kl_0 _) rfl ?_
          refine g_iload_n (n := 1) rfl rfl ?_
          have h11 : 2 ≤ m.1 7 ∧ m.1 7 ≤ 6 := hm.1 7
          refine c_vI (i := 31) (ps := [vI n]) (r := []) (as := [vR 31, vI n]) (cs' := 0) (sl' := 0) rfl rfl rfl rfl rfl rfl (kl_31 _) (c_roomsBehind (d := d - 1) (q := q - (4 + 19)) (by omega) (by omega) hm (n := n) (show 1 ≤ n ∧ n ≤ 10 by omega)) (by omega) (show 4 + 19 ≤ q by omega) (Nat.le_of_ble_eq_true rfl) (Nat.le_of_ble_eq_true rfl) rfl rfl rfl ?_
          rintro z12 m13 ⟨hm15, hc16, p17, p18, p19⟩
          have hf20 : fr [] [35, 36, 37, 38, 39, 40, 41, 42, 43, 44, 45] m m13 := fr_tr hf0 (fr_le hc16 rfl rfl)
          have h21 : m13.1 7 = m.1 7 := hc16.1 7 rfl
          have h22 : 2 ≤ m13.1 7 ∧ m13.1 7 ≤ 6 := hm15.1 7
          refine g_i2l (by omega) (by omega) rfl ?_
          refine g_lret rfl rfl ?_
          exact ⟨_, _, rfl, hm15, hf20, by omega, by omega, Or.inr (Or.inr ⟨by omega, by omega, by omega, p19⟩)⟩
        · intro kk23
          refine g_aload_n (n := 0) rfl rfl ?_
          refine g_getf (v := vR 31) rfl (kl_0 _) rfl ?_
          refine g_iload_n (n := 1) rfl rfl ?_
          have h24 : 2 ≤ m.1 7 ∧ m.1 7 ≤ 6 := hm.1 7
          refine c_vL (i := 31) (ps := [vI n]) (r := []) (as := [vR 31, vI n]) (cs' := 0) (sl' := 0) rfl rfl rfl rfl rfl rfl (kl_31 _) (c_ways (d := d - 1) (q := q - (5 + 19)) (by omega) (by omega) hm (n := n) (show 1 ≤ n ∧ n ≤ 10 by omega)) (by omega) (show 5 + 19 ≤ q by omega) (Nat.le_of_ble_eq_true rfl) (Nat.le_of_ble_eq_true rfl) rfl rfl rfl ?_
          rintro z25 m26 ⟨hm28, hc29, p30, p31, p32⟩
          have hf33 : fr [] [35, 36, 37, 38, 39, 40, 41, 42, 43, 44, 45] m m26 := fr_tr hf0 (fr_le hc29 rfl rfl)
          have h34 : m26.1 7 = m.1 7 := hc29.1 7 rfl
          have h35 : 2 ≤ m26.1 7 ∧ m26.1 7 ≤ 6 := hm28.1 7
          refine g_goto rfl ?_
          refine g_lret rfl rfl ?_
          exact ⟨_, _, rfl, hm28, hf33, by omega, by omega, Or.inr (Or.inl ⟨by omega, by omega, by omega, p32⟩)⟩
      · intro kk36
        refine g_ldc2 (x := (-3)) (by decide) rfl ?_
        refine g_lret rfl rfl ?_
        exact ⟨_, _, rfl, hm, hf0, by omega, by omega, Or.inl ⟨by omega, rfl⟩⟩
theorem c_ask {V : cg_V} {d q : Nat} (hd : 6 ≤ d) (hq : 145 ≤ q) {m : kM} (hm : kI m) {n : Int} (h_n : (-2147483648) ≤ n ∧ n ≤ 2147483647) (hV : ∀ d : Int, 0 ≤ d → d < m.1 8 → m.2.1 4 d < m.1 7 ∧ m.2.1 5 d < m.1 7) : cg_S V d q mX9_ask [vR 0, vI n] (kl m) (R_I (fun z m' => (kI m') ∧ (fr [] [35, 36, 37, 38, 39, 40, 41, 42, 43, 44, 45, 47, 48, 49, 50, 51, 52, 53, 54, 55, 56, 57] m m') ∧ (-3 ≤ z) ∧ (z ≤ 9) ∧ (CAZ m n z))) := by
  have hf0 : fr [] [35, 36, 37, 38, 39, 40, 41, 42, 43, 44, 45, 47, 48, 49, 50, 51, 52, 53, 54, 55, 56, 57] m m := fr_rf m
  refine cg_of (List.mem_of_getElem? (show ae_MT[113]? = some mX9_ask from rfl)) (Nat.le_of_ble_eq_true rfl) ?_
  show cg_G V mX9_ask d q _ 0 [(0, vR 0), (1, vI n)] [] (kl m) 0 0
  refine g_iload_n (n := 1) rfl rfl ?_
  refine c_sI (ps := [vI n]) (r := []) (as := [vI n]) (cs' := 0) (sl' := 0) rfl rfl rfl rfl rfl rfl (c_isNight (d := d - 1) (q := q - (1 + 19)) (by omega) (by omega) hm (c := n) (show (-2147483648) ≤ n ∧ n ≤ 2147483647 by omega)) (by omega) (show 1 + 19 ≤ q by omega) (Nat.le_of_ble_eq_true rfl) (Nat.le_of_ble_eq_true rfl) rfl rfl rfl ?_
  rintro z1 m2 ⟨rfl, p4⟩
  refine g_if_eq (by omega) (by omega) rfl ?_ ?_
  · intro kk5
    refine g_bipush (by decide) rfl ?_
    refine g_iret rfl rfl ?_
    exact ⟨_, _, rfl, hm, hf0, by omega, by omega, Or.inl ⟨by omega, rfl⟩⟩
  · intro kk6
    refine g_aload_n (n := 0) rfl rfl ?_
    refine g_getf (v := vR 31) rfl (kl_0 _) rfl ?_
    refine g_iload_n (n := 1) rfl rfl ?_
    refine c_vI (i := 31) (ps := [vI n]) (r := []) (as := [vR 31, vI n]) (cs' := 0) (sl' := 0) rfl rfl rfl rfl rfl rfl (kl_31 _) (c_bestMinute (d := d - 1) (q := q - (8 + 19)) (by omega) (by omega) hm (n := n) (show 1 ≤ n ∧ n ≤ 10 by omega) hV) (by omega) (show 8 + 19 ≤ q by omega) (Nat.le_of_ble_eq_true rfl) (Nat.le_of_ble_eq_true rfl) rfl rfl rfl ?_
    rintro z7 m8 ⟨hm10, hc11, p12, p13, p14⟩
    have hf15 : fr [] [35, 36, 37, 38, 39, 40, 41, 42, 43, 44, 45, 47, 48, 49, 50, 51, 52, 53, 54, 55, 56, 57] m m8 := fr_tr hf0 (fr_le hc11 rfl rfl)
    refine g_goto rfl ?_
    refine g_iret rfl rfl ?_
    exact ⟨_, _, rfl, hm10, hf15, by omega, by omega, Or.inr ⟨by omega, by omega, p14⟩⟩
