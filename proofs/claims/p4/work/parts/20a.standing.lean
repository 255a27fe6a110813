/-! ===== contracts: standings ===== -/
theorem c_roomOf {V : cg_V} {d q : Nat} (hd : 0 ≤ d) (hq : 0 ≤ q) {m : kM} (hm : kI m) {s g : Int} (h_s : (-2147483648) ≤ s ∧ s ≤ 2147483647) (h_g : 0 ≤ g ∧ g ≤ 1) : cg_S V d q mX8_roomOf [vI s, vI g] (kl m) (R_I (fun z m' => (m = m') ∧ (0 ≤ z) ∧ (z ≤ 7))) := by
  refine cg_of (List.mem_of_getElem? (show ae_MT[1]? = some mX8_roomOf from rfl)) (Nat.le_of_ble_eq_true rfl) ?_
  show cg_G V mX8_roomOf d q _ 0 [(0, vI s), (1, vI g)] [] (kl m) 0 0
  have h1 : g = 0 ∨ g = 1 := by omega
  rcases h1 with rfl | rfl
  · refine g_iload_n (n := 0) rfl rfl ?_
    refine g_iconst rfl ?_
    refine g_iload_n (n := 1) rfl rfl ?_
    refine g_imul rfl ?_
    refine g_ishr rfl ?_
    intro z2 h3 h4 h5
    have h6 : z2 = s / 1 := b_shrN h3 (by decide) (by omega) (by omega) (by decide) (by decide)
    refine g_bipush (by decide) rfl ?_
    refine g_iand rfl ?_
    intro z7 h8 h9 h10
    have h11 : z7 = z2 % 8 := b_modN (k := 3) h8 (by decide) (by decide) (by decide)
    refine g_iret rfl rfl ?_
    exact ⟨_, _, rfl, rfl, (by omega), (by omega)⟩
  · refine g_iload_n (n := 0) rfl rfl ?_
    refine g_iconst rfl ?_
    refine g_iload_n (n := 1) rfl rfl ?_
    refine g_imul rfl ?_
    refine g_ishr rfl ?_
    intro z12 h13 h14 h15
    have h16 : z12 = s / 8 := b_shrN h13 (by decide) (by omega) (by omega) (by decide) (by decide)
    refine g_bipush (by decide) rfl ?_
    refine g_iand rfl ?_
    intro z17 h18 h19 h20
    have h21 : z17 = z12 % 8 := b_modN (k := 3) h18 (by decide) (by decide) (by decide)
    refine g_iret rfl rfl ?_
    exact ⟨_, _, rfl, rfl, (by omega), (by omega)⟩
theorem c_keyPlace {V : cg_V} {d q : Nat} (hd : 0 ≤ d) (hq : 0 ≤ q) {m : kM} (hm : kI m) {s : Int} (h_s : (-2147483648) ≤ s ∧ s ≤ 2147483647) : cg_S V d q mX8_keyPlace [vI s] (kl m) (R_I (fun z m' => (m = m') ∧ (0 ≤ z) ∧ (z ≤ 7))) := by
  refine cg_of (List.mem_of_getElem? (show ae_MT[3]? = some mX8_keyPlace from rfl)) (Nat.le_of_ble_eq_true rfl) ?_
  show cg_G V mX8_keyPlace d q _ 0 [(0, vI s)] [] (kl m) 0 0
  refine g_iload_n (n := 0) rfl rfl ?_
  refine g_bipush (by decide) rfl ?_
  refine g_ishr rfl ?_
  intro z1 h2 h3 h4
  have h5 : z1 = s / 256 := b_shrN h2 (by decide) (by omega) (by omega) (by decide) (by decide)
  refine g_bipush (by decide) rfl ?_
  refine g_iand rfl ?_
  intro z6 h7 h8 h9
  have h10 : z6 = z1 % 8 := b_modN (k := 3) h7 (by decide) (by decide) (by decide)
  refine g_iret rfl rfl ?_
  exact ⟨_, _, rfl, rfl, (by omega), (by omega)⟩
theorem c_hungry {V : cg_V} {d q : Nat} (hd : 0 ≤ d) (hq : 0 ≤ q) {m : kM} (hm : kI m) {s : Int} (h_s : (-2147483648) ≤ s ∧ s ≤ 2147483647) : cg_S V d q mX8_hungry [vI s] (kl m) (R_I (fun z m' => (m = m') ∧ (0 ≤ z) ∧ (z ≤ 63))) := by
  refine cg_of (List.mem_of_getElem? (show ae_MT[25]? = some mX8_hungry from rfl)) (Nat.le_of_ble_eq_true rfl) ?_
  show cg_G V mX8_hungry d q _ 0 [(0, vI s)] [] (kl m) 0 0
  refine g_iload_n (n := 0) rfl rfl ?_
  refine g_bipush (by decide) rfl ?_
  refine g_ishr rfl ?_
  intro z1 h2 h3 h4
  have h5 : z1 = s / 2048 := b_shrN h2 (by decide) (by omega) (by omega) (by decide) (by decide)
  refine g_bipush (by decide) rfl ?_
  refine g_iand rfl ?_
  intro z6 h7 h8 h9
  have h10 : z6 = z1 % 64 := b_modN (k := 6) h7 (by decide) (by decide) (by decide)
  refine g_iret rfl rfl ?_
  exact ⟨_, _, rfl, rfl, (by omega), (by omega)⟩
theorem c_turns {V : cg_V} {d q : Nat} (hd : 0 ≤ d) (hq : 0 ≤ q) {m : kM} (hm : kI m) {s : Int} (h_s : (-2147483648) ≤ s ∧ s ≤ 2147483647) : cg_S V d q mX8_turns [vI s] (kl m) (R_I (fun z m' => (m = m') ∧ (0 ≤ z) ∧ (z ≤ 3))) := by
  refine cg_of (List.mem_of_getElem? (show ae_MT[13]? = some mX8_turns from rfl)) (Nat.le_of_ble_eq_true rfl) ?_
  show cg_G V mX8_turns d q _ 0 [(0, vI s)] [] (kl m) 0 0
  refine g_iload_n (n := 0) rfl rfl ?_
  refine g_bipush (by decide) rfl ?_
  refine g_ishr rfl ?_
  intro z1 h2 h3 h4
  have h5 : z1 = s / 131072 := b_shrN h2 (by decide) (by omega) (by omega) (by decide) (by decide)
  refine g_iconst rfl ?_
  refine g_iand rfl ?_
  intro z6 h7 h8 h9
  have h10 : z6 = z1 % 4 := b_modN (k := 2) h7 (by decide) (by decide) (by decide)
  refine g_iret rfl rfl ?_
  exact ⟨_, _, rfl, rfl, (by omega), (by omega)⟩
theorem c_hasOf {V : cg_V} {d q : Nat} (hd : 0 ≤ d) (hq : 0 ≤ q) {m : kM} (hm : kI m) {s g : Int} (h_s : (-2147483648) ≤ s ∧ s ≤ 2147483647) (h_g : 0 ≤ g ∧ g ≤ 1) : cg_S V d q mX8_hasOf [vI s, vI g] (kl m) (R_I (fun z m' => (m = m') ∧ (0 ≤ z) ∧ (z ≤ 2))) := by
  refine cg_of (List.mem_of_getElem? (show ae_MT[2]? = some mX8_hasOf from rfl)) (Nat.le_of_ble_eq_true rfl) ?_
  show cg_G V mX8_hasOf d q _ 0 [(0, vI s), (1, vI g)] [] (kl m) 0 0
  have h1 : g = 0 ∨ g = 1 := by omega
  rcases h1 with rfl | rfl
  · refine g_iload_n (n := 0) rfl rfl ?_
    refine g_bipush (by decide) rfl ?_
    refine g_ishr rfl ?_
    intro z2 h3 h4 h5
    have h6 : z2 = s / 256 := b_shrN h3 (by decide) (by omega) (by omega) (by decide) (by decide)
    refine g_bipush (by decide) rfl ?_
    refine g_iand rfl ?_
    intro z7 h8 h9 h10
    have h11 : z7 = z2 % 8 := b_modN (k := 3) h8 (by decide) (by decide) (by decide)
    refine g_bipush (by decide) rfl ?_
    refine g_iload_n (n := 1) rfl rfl ?_
    refine g_iadd rfl ?_
    refine g_icmp_ne (by omega) (by omega) (by omega) (by omega) rfl ?_ ?_
    · intro k12
      refine g_iload_n (n := 0) rfl rfl ?_
      refine g_bipush (by decide) rfl ?_
      refine g_iload_n (n := 1) rfl rfl ?_
      refine g_iadd rfl ?_
      refine g_ishr rfl ?_
      intro z13 h14 h15 h16
      have h17 : z13 = s / 64 := b_shrN h14 (by decide) (by omega) (by omega) (by decide) (by decide)
      refine g_iconst rfl ?_
      refine g_iand rfl ?_
      intro z18 h19 h20 h21
      have h22 : z18 = z13 % 2 := b_modN (k := 1) h19 (by decide) (by decide) (by decide)
      refine g_iret rfl rfl ?_
      exact ⟨_, _, rfl, rfl, (by omega), (by omega)⟩
    · intro k23
      refine g_iconst rfl ?_
      refine g_goto rfl ?_
      refine g_iret rfl rfl ?_
      exact ⟨_, _, rfl, rfl, (by omega), (by omega)⟩
  · refine g_iload_n (n := 0) rfl rfl ?_
    refine g_bipush (by decide) rfl ?_
    refine g_ishr rfl ?_
    intro z24 h25 h26 h27
    have h28 : z24 = s / 256 := b_shrN h25 (by decide) (by omega) (by omega) (by decide) (by decide)
    refine g_bipush (by decide) rfl ?_
    refine g_iand rfl ?_
    intro z29 h30 h31 h32
    have h33 : z29 = z24 % 8 := b_modN (k := 3) h30 (by decide) (by decide) (by decide)
    refine g_bipush (by decide) rfl ?_
    refine g_iload_n (n := 1) rfl rfl ?_
    refine g_iadd rfl ?_
    refine g_icmp_ne (by omega) (by omega) (by omega) (by omega) rfl ?_ ?_
    · intro k34
      refine g_iload_n (n := 0) rfl rfl ?_
      refine g_bipush (by decide) rfl ?_
      refine g_iload_n (n := 1) rfl rfl ?_
      refine g_iadd rfl ?_
      refine g_ishr rfl ?_
      intro z35 h36 h37 h38
      have h39 : z35 = s / 128 := b_shrN h36 (by decide) (by omega) (by omega) (by decide) (by decide)
      refine g_iconst rfl ?_
      refine g_iand rfl ?_
      intro z40 h41 h42 h43
      have h44 : z40 = z35 % 2 := b_modN (k := 1) h41 (by decide) (by decide) (by decide)
      refine g_iret rfl rfl ?_
      exact ⟨_, _, rfl, rfl, (by omega), (by omega)⟩
    · intro k45
      refine g_iconst rfl ?_
      refine g_goto rfl ?_
      refine g_iret rfl rfl ?_
      exact ⟨_, _, rfl, rfl, (by omega), (by omega)⟩
theorem c_hungryIn {V : cg_V} {d q : Nat} (hd : 0 ≤ d) (hq : 0 ≤ q) {m : kM} (hm : kI m) {s r : Int} (h_s : (-2147483648) ≤ s ∧ s ≤ 2147483647) (h_r : (-2147483648) ≤ r ∧ r ≤ 2147483647) : cg_S V d q mX8_hungryIn [vI s, vI r] (kl m) (R_I (fun z m' => (m = m') ∧ (0 ≤ z) ∧ (z ≤ 1))) := by
  refine cg_of (List.mem_of_getElem? (show ae_MT[6]? = some mX8_hungryIn from rfl)) (Nat.le_of_ble_eq_true rfl) ?_
  show cg_G V mX8_hungryIn d q _ 0 [(0, vI s), (1, vI r)] [] (kl m) 0 0
  refine g_iload_n (n := 0) rfl rfl ?_
  refine g_bipush (by decide) rfl ?_
  refine g_iload_n (n := 1) rfl rfl ?_
  refine g_iadd rfl ?_
  refine g_nrm ?_
  intro z1 h2 h3 h4 h5
  refine g_ishr rfl ?_
  intro z6 h7 h8 h9
  refine g_iconst rfl ?_
  refine g_iand rfl ?_
  intro z11 h12 h13 h14
  have h15 : z11 = z6 % 2 := b_modN (k := 1) h12 (by decide) (by decide) (by decide)
  refine g_iconst rfl ?_
  refine g_icmp_ne (by omega) (by omega) (by decide) (by decide) rfl ?_ ?_
  · intro k16
    refine g_iconst rfl ?_
    refine g_zret rfl rfl (by omega) ?_
    exact ⟨_, _, rfl, rfl, (by omega), (by omega)⟩
  · intro k17
    refine g_iconst rfl ?_
    refine g_goto rfl ?_
    refine g_zret rfl rfl (by omega) ?_
    exact ⟨_, _, rfl, rfl, (by omega), (by omega)⟩
theorem c_withRoom {V : cg_V} {d q : Nat} (hd : 0 ≤ d) (hq : 0 ≤ q) {m : kM} (hm : kI m) {s g r : Int} (h_s : 0 ≤ s ∧ s ≤ 524287) (h_g : 0 ≤ g ∧ g ≤ 1) (h_r : 0 ≤ r ∧ r ≤ 7) : cg_S V d q mX8_withRoom [vI s, vI g, vI r] (kl m) (R_I (fun z m' => (m = m') ∧ (0 ≤ z) ∧ (z ≤ 524287))) := by
  refine cg_of (List.mem_of_getElem? (show ae_MT[14]? = some mX8_withRoom from rfl)) (Nat.le_of_ble_eq_true rfl) ?_
  show cg_G V mX8_withRoom d q _ 0 [(0, vI s), (1, vI g), (2, vI r)] [] (kl m) 0 0
  have h1 : g = 0 ∨ g = 1 := by omega
  rcases h1 with rfl | rfl
  · refine g_iload_n (n := 0) rfl rfl ?_
    refine g_bipush (by decide) rfl ?_
    refine g_iconst rfl ?_
    refine g_iload_n (n := 1) rfl rfl ?_
    refine g_imul rfl ?_
    refine g_ishl rfl ?_
    intro z2 h3 h4 h5
    have h6 : z2 = 7 * 1 := b_shlN h3 (by decide) (by omega) (by decide) (by decide) (by omega)
    refine g_iconst rfl ?_
    refine g_ixor rfl ?_
    intro z7 h8 h9 h10
    refine g_iand rfl ?_
    intro z12 h13 h14 h15
    have h16 := b_and h13 (by omega) (by omega)
    refine g_iload_n (n := 2) rfl rfl ?_
    refine g_iconst rfl ?_
    refine g_iload_n (n := 1) rfl rfl ?_
    refine g_imul rfl ?_
    refine g_ishl rfl ?_
    intro z17 h18 h19 h20
    have h21 : z17 = r * 1 := b_shlN h18 (by decide) (by omega) (by decide) (by decide) (by omega)
    refine g_ior rfl ?_
    intro z22 h23 h24 h25
    have h26 := b_orN (k := 19) (N := 524288) h23 (by decide) (by decide) (by omega) (by omega) (by omega) (by omega)
    refine g_iret rfl rfl ?_
    exact ⟨_, _, rfl, rfl, (by omega), (by omega)⟩
  · refine g_iload_n (n := 0) rfl rfl ?_
    refine g_bipush (by decide) rfl ?_
    refine g_iconst rfl ?_
    refine g_iload_n (n := 1) rfl rfl ?_
    refine g_imul rfl ?_
    refine g_ishl rfl ?_
    intro z27 h28 h29 h30
    have h31 : z27 = 7 * 8 := b_shlN h28 (by decide) (by omega) (by decide) (by decide) (by omega)
    refine g_iconst rfl ?_
    refine g_ixor rfl ?_
    intro z32 h33 h34 h35
    refine g_iand rfl ?_
    intro z37 h38 h39 h40
    have h41 := b_and h38 (by omega) (by omega)
    refine g_iload_n (n := 2) rfl rfl ?_
    refine g_iconst rfl ?_
    refine g_iload_n (n := 1) rfl rfl ?_
    refine g_imul rfl ?_
    refine g_ishl rfl ?_
    intro z42 h43 h44 h45
    have h46 : z42 = r * 8 := b_shlN h43 (by decide) (by omega) (by decide) (by decide) (by omega)
    refine g_ior rfl ?_
    intro z47 h48 h49 h50
    have h51 := b_orN (k := 19) (N := 524288) h48 (by decide) (by decide) (by omega) (by omega) (by omega) (by omega)
    refine g_iret rfl rfl ?_
    exact ⟨_, _, rfl, rfl, (by omega), (by omega)⟩
theorem c_withLoaf {V : cg_V} {d q : Nat} (hd : 0 ≤ d) (hq : 0 ≤ q) {m : kM} (hm : kI m) {s g : Int} (h_s : 0 ≤ s ∧ s ≤ 524287) (h_g : 0 ≤ g ∧ g ≤ 1) : cg_S V d q mX8_withLoaf [vI s, vI g] (kl m) (R_I (fun z m' => (m = m') ∧ (0 ≤ z) ∧ (z ≤ 524287))) := by
  refine cg_of (List.mem_of_getElem? (show ae_MT[5]? = some mX8_withLoaf from rfl)) (Nat.le_of_ble_eq_true rfl) ?_
  show cg_G V mX8_withLoaf d q _ 0 [(0, vI s), (1, vI g)] [] (kl m) 0 0
  have h1 : g = 0 ∨ g = 1 := by omega
  rcases h1 with rfl | rfl
  · refine g_iload_n (n := 0) rfl rfl ?_
    refine g_iconst rfl ?_
    refine g_bipush (by decide) rfl ?_
    refine g_iload_n (n := 1) rfl rfl ?_
    refine g_iadd rfl ?_
    refine g_ishl rfl ?_
    intro z2 h3 h4 h5
    have h6 : z2 = 1 * 64 := b_shlN h3 (by decide) (by omega) (by decide) (by decide) (by omega)
    refine g_ior rfl ?_
    intro z7 h8 h9 h10
    have h11 := b_orN (k := 19) (N := 524288) h8 (by decide) (by decide) (by omega) (by omega) (by omega) (by omega)
    refine g_iret rfl rfl ?_
    exact ⟨_, _, rfl, rfl, (by omega), (by omega)⟩
  · refine g_iload_n (n := 0) rfl rfl ?_
    refine g_iconst rfl ?_
    refine g_bipush (by decide) rfl ?_
    refine g_iload_n (n := 1) rfl rfl ?_
    refine g_iadd rfl ?_
    refine g_ishl rfl ?_
    intro z12 h13 h14 h15
    have h16 : z12 = 1 * 128 := b_shlN h13 (by decide) (by omega) (by decide) (by decide) (by omega)
    refine g_ior rfl ?_
    intro z17 h18 h19 h20
    have h21 := b_orN (k := 19) (N := 524288) h18 (by decide) (by decide) (by omega) (by omega) (by omega) (by omega)
    refine g_iret rfl rfl ?_
    exact ⟨_, _, rfl, rfl, (by omega), (by omega)⟩
theorem c_withoutLoaf {V : cg_V} {d q : Nat} (hd : 0 ≤ d) (hq : 0 ≤ q) {m : kM} (hm : kI m) {s g : Int} (h_s : 0 ≤ s ∧ s ≤ 524287) (h_g : 0 ≤ g ∧ g ≤ 1) : cg_S V d q mX8_withoutLoaf [vI s, vI g] (kl m) (R_I (fun z m' => (m = m') ∧ (0 ≤ z) ∧ (z ≤ 524287))) := by
  refine cg_of (List.mem_of_getElem? (show ae_MT[7]? = some mX8_withoutLoaf from rfl)) (Nat.le_of_ble_eq_true rfl) ?_
  show cg_G V mX8_withoutLoaf d q _ 0 [(0, vI s), (1, vI g)] [] (kl m) 0 0
  refine g_iload_n (n := 0) rfl rfl ?_
  refine g_iconst rfl ?_
  refine g_bipush (by decide) rfl ?_
  refine g_iload_n (n := 1) rfl rfl ?_
  refine g_iadd rfl ?_
  refine g_ishl rfl ?_
  intro z1 h2 h3 h4
  refine g_iconst rfl ?_
  refine g_ixor rfl ?_
  intro z6 h7 h8 h9
  refine g_iand rfl ?_
  intro z11 h12 h13 h14
  have h15 := b_and h12 (by omega) (by omega)
  refine g_iret rfl rfl ?_
  exact ⟨_, _, rfl, rfl, (by omega), (by omega)⟩
theorem c_withKeyAt {V : cg_V} {d q : Nat} (hd : 0 ≤ d) (hq : 0 ≤ q) {m : kM} (hm : kI m) {s p : Int} (h_s : 0 ≤ s ∧ s ≤ 524287) (h_p : 0 ≤ p ∧ p ≤ 7) : cg_S V d q mX8_withKeyAt [vI s, vI p] (kl m) (R_I (fun z m' => (m = m') ∧ (0 ≤ z) ∧ (z ≤ 524287))) := by
  refine cg_of (List.mem_of_getElem? (show ae_MT[4]? = some mX8_withKeyAt from rfl)) (Nat.le_of_ble_eq_true rfl) ?_
  show cg_G V mX8_withKeyAt d q _ 0 [(0, vI s), (1, vI p)] [] (kl m) 0 0
  refine g_iload_n (n := 0) rfl rfl ?_
  refine g_sipush (by decide) rfl ?_
  refine g_iand rfl ?_
  intro z1 h2 h3 h4
  have h5 := b_and h2 (by omega) (by omega)
  refine g_iload_n (n := 1) rfl rfl ?_
  refine g_bipush (by decide) rfl ?_
  refine g_ishl rfl ?_
  intro z6 h7 h8 h9
  have h10 : z6 = p * 256 := b_shlN h7 (by decide) (by omega) (by decide) (by decide) (by omega)
  refine g_ior rfl ?_
  intro z11 h12 h13 h14
  have h15 := b_orN (k := 19) (N := 524288) h12 (by decide) (by decide) (by omega) (by omega) (by omega) (by omega)
  refine g_iret rfl rfl ?_
  exact ⟨_, _, rfl, rfl, (by omega), (by omega)⟩
theorem c_withFed {V : cg_V} {d q : Nat} (hd : 0 ≤ d) (hq : 0 ≤ q) {m : kM} (hm : kI m) {s r : Int} (h_s : 0 ≤ s ∧ s ≤ 524287) (h_r : (-2147483648) ≤ r ∧ r ≤ 2147483647) : cg_S V d q mX8_withFed [vI s, vI r] (kl m) (R_I (fun z m' => (m = m') ∧ (0 ≤ z) ∧ (z ≤ 524287))) := by
  refine cg_of (List.mem_of_getElem? (show ae_MT[8]? = some mX8_withFed from rfl)) (Nat.le_of_ble_eq_true rfl) ?_
  show cg_G V mX8_withFed d q _ 0 [(0, vI s), (1, vI r)] [] (kl m) 0 0
  refine g_iload_n (n := 0) rfl rfl ?_
  refine g_iconst rfl ?_
  refine g_bipush (by decide) rfl ?_
  refine g_iload_n (n := 1) rfl rfl ?_
  refine g_iadd rfl ?_
  refine g_nrm ?_
  intro z1 h2 h3 h4 h5
  refine g_ishl rfl ?_
  intro z6 h7 h8 h9
  refine g_iconst rfl ?_
  refine g_ixor rfl ?_
  intro z11 h12 h13 h14
  refine g_iand rfl ?_
  intro z16 h17 h18 h19
  have h20 := b_and h17 (by omega) (by omega)
  refine g_iret rfl rfl ?_
  exact ⟨_, _, rfl, rfl, (by omega), (by omega)⟩
theorem c_withTurns {V : cg_V} {d q : Nat} (hd : 0 ≤ d) (hq : 0 ≤ q) {m : kM} (hm : kI m) {s t : Int} (h_s : 0 ≤ s ∧ s ≤ 524287) (h_t : 0 ≤ t ∧ t ≤ 3) : cg_S V d q mX8_withTurns [vI s, vI t] (kl m) (R_I (fun z m' => (m = m') ∧ (0 ≤ z) ∧ (z ≤ 524287))) := by
  refine cg_of (List.mem_of_getElem? (show ae_MT[15]? = some mX8_withTurns from rfl)) (Nat.le_of_ble_eq_true rfl) ?_
  show cg_G V mX8_withTurns d q _ 0 [(0, vI s), (1, vI t)] [] (kl m) 0 0
  refine g_iload_n (n := 0) rfl rfl ?_
  refine g_ldci (x := (-393217)) rfl (by decide) rfl ?_
  refine g_iand rfl ?_
  intro z1 h2 h3 h4
  have h5 := b_and h2 (by omega) (by omega)
  refine g_iload_n (n := 1) rfl rfl ?_
  refine g_bipush (by decide) rfl ?_
  refine g_ishl rfl ?_
  intro z6 h7 h8 h9
  have h10 : z6 = t * 131072 := b_shlN h7 (by decide) (by omega) (by decide) (by decide) (by omega)
  refine g_ior rfl ?_
  intro z11 h12 h13 h14
  have h15 := b_orN (k := 19) (N := 524288) h12 (by decide) (by decide) (by omega) (by omega) (by omega) (by omega)
  refine g_iret rfl rfl ?_
  exact ⟨_, _, rfl, rfl, (by omega), (by omega)⟩
