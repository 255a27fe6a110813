/-! ===== contracts: the model, what needs no standing ===== -/
theorem d_in {V : cg_V} {d q : Nat} (hd : 0 ≤ d) (hq : 0 ≤ q) {m : kM} (hm : kI m) {a b c : Int} (h_a : (-9223372036854775808) ≤ a ∧ a ≤ 9223372036854775807) (h_b : (-9223372036854775808) ≤ b ∧ b ≤ 9223372036854775807) (h_c : (-9223372036854775808) ≤ c ∧ c ≤ 9223372036854775807) : cg_S V d q mX10_in [vL a, vL b, vL c] (kl m) (R_I (fun z m' => (m = m') ∧ ((z = 1 ∧ b ≤ a ∧ a ≤ c) ∨ (z = 0 ∧ (a < b ∨ c < a))))) := by
  refine cg_of (List.mem_of_getElem? (show ae_MT[119]? = some mX10_in from rfl)) (Nat.le_of_ble_eq_true rfl) ?_
  show cg_G V mX10_in d q _ 0 [(0, vL a), (2, vL b), (4, vL c)] [] (kl m) 0 0
  refine g_lload_n (n := 0) rfl rfl ?_
  refine g_lload_n (n := 2) rfl rfl ?_
  refine g_lcmp (by omega) (by omega) (by omega) (by omega) rfl ?_
  intro z1 h2
  refine g_if_lt (by omega) (by omega) rfl ?_ ?_
  · intro kk3
    refine g_iconst rfl ?_
    refine g_zret rfl rfl (by omega) ?_
    exact ⟨_, _, rfl, rfl, (by omega)⟩
  · intro kk4
    refine g_lload_n (n := 0) rfl rfl ?_
    refine g_lload (n := 4) rfl rfl ?_
    refine g_lcmp (by omega) (by omega) (by omega) (by omega) rfl ?_
    intro z5 h6
    refine g_if_gt (by omega) (by omega) rfl ?_ ?_
    · intro kk7
      refine g_iconst rfl ?_
      refine g_zret rfl rfl (by omega) ?_
      exact ⟨_, _, rfl, rfl, (by omega)⟩
    · intro kk8
      refine g_iconst rfl ?_
      refine g_goto rfl ?_
      refine g_zret rfl rfl (by omega) ?_
      exact ⟨_, _, rfl, rfl, (by omega)⟩
theorem d_has {V : cg_V} {d q : Nat} (hd : 0 ≤ d) (hq : 0 ≤ q) {m : kM} (hm : kI m) {s k : Int} (h_s : (-2147483648) ≤ s ∧ s ≤ 2147483647) (h_k : 0 ≤ k ∧ k ≤ 5) : cg_S V d q mX10_has [vI s, vI k] (kl m) (R_I (fun z m' => (m = m') ∧ (z = hb s k) ∧ (0 ≤ z) ∧ (z ≤ 1))) := by
  refine cg_of (List.mem_of_getElem? (show ae_MT[120]? = some mX10_has from rfl)) (Nat.le_of_ble_eq_true rfl) ?_
  show cg_G V mX10_has d q _ 0 [(0, vI s), (1, vI k)] [] (kl m) 0 0
  refine g_iload_n (n := 0) rfl rfl ?_
  refine g_iload_n (n := 1) rfl rfl ?_
  refine g_ishr rfl ?_
  intro z1 h2 h3 h4
  have h5 : z1 = s / 2 ^ (Int.toNat (k)) := b_shr h2 (by omega) (by omega) (by omega) (by omega)
  refine g_iconst rfl ?_
  refine g_iand rfl ?_
  intro z6 h7 h8 h9
  have h10 : z6 = z1 % 2 := b_modN (k := 1) h7 (by decide) (by decide) (by decide)
  refine g_iconst rfl ?_
  refine g_icmp_ne (by omega) (by omega) (by decide) (by decide) rfl ?_ ?_
  · intro kk11
    refine g_iconst rfl ?_
    refine g_zret rfl rfl (by omega) ?_
    exact ⟨_, _, rfl, rfl, (by show _ = s / 2 ^ (Int.toNat k) % 2; omega), (by omega), (by omega)⟩
  · intro kk12
    refine g_iconst rfl ?_
    refine g_goto rfl ?_
    refine g_zret rfl rfl (by omega) ?_
    exact ⟨_, _, rfl, rfl, (by show _ = s / 2 ^ (Int.toNat k) % 2; omega), (by omega), (by omega)⟩
theorem d_bits {V : cg_V} {d q : Nat} (hd : 0 ≤ d) (hq : 0 ≤ q) {m : kM} (hm : kI m) {s : Int} (h_s : (-2147483648) ≤ s ∧ s ≤ 2147483647) : cg_S V d q mX10_bits [vI s] (kl m) (R_I (fun z m' => (m = m') ∧ (z = s / 1 % 2 + s / 2 % 2 + s / 4 % 2 + s / 8 % 2 + s / 16 % 2 + s / 32 % 2))) := by
  refine cg_of (List.mem_of_getElem? (show ae_MT[121]? = some mX10_bits from rfl)) (Nat.le_of_ble_eq_true rfl) ?_
  show cg_G V mX10_bits d q _ 0 [(0, vI s)] [] (kl m) 0 0
  refine g_iconst rfl ?_
  refine g_istore_n (n := 1) (lo' := [(0, vI s)]) rfl rfl ?_
  refine g_iconst rfl ?_
  refine g_istore_n (n := 2) (lo' := [(1, vI 0), (0, vI s)]) rfl rfl ?_
  refine g_iload_n (n := 2) rfl rfl ?_
  refine g_bipush (by decide) rfl ?_
  refine g_icmp_ge (by decide) (by decide) (by decide) (by decide) rfl ?_ ?_
  · intro kk1
    exfalso; omega
  · intro kk2
    refine g_iload_n (n := 1) rfl rfl ?_
    refine g_iload_n (n := 0) rfl rfl ?_
    refine g_iload_n (n := 2) rfl rfl ?_
    refine g_ishr rfl ?_
    intro z3 h4 h5 h6
    have h7 : z3 = s / 1 := b_shrN h4 (by decide) (by omega) (by omega) (by decide) (by decide)
    refine g_iconst rfl ?_
    refine g_iand rfl ?_
    intro z8 h9 h10 h11
    have h12 : z8 = z3 % 2 := b_modN (k := 1) h9 (by decide) (by decide) (by decide)
    refine g_iadd rfl ?_
    refine g_istore_n (n := 1) (lo' := [(2, vI 0), (0, vI s)]) rfl rfl ?_
    refine g_iinc (n := 2) (lo' := [(1, vI (0 + z8)), (0, vI s)]) rfl rfl rfl ?_
    refine g_goto rfl ?_
    refine g_iload_n (n := 2) rfl rfl ?_
    refine g_bipush (by decide) rfl ?_
    refine g_icmp_ge (by omega) (by omega) (by decide) (by decide) rfl ?_ ?_
    · intro kk13
      exfalso; omega
    · intro kk14
      refine g_iload_n (n := 1) rfl rfl ?_
      refine g_iload_n (n := 0) rfl rfl ?_
      refine g_iload_n (n := 2) rfl rfl ?_
      refine g_ishr rfl ?_
      intro z15 h16 h17 h18
      have h19 : z15 = s / 2 := b_shrN h16 (by decide) (by omega) (by omega) (by decide) (by decide)
      refine g_iconst rfl ?_
      refine g_iand rfl ?_
      intro z20 h21 h22 h23
      have h24 : z20 = z15 % 2 := b_modN (k := 1) h21 (by decide) (by decide) (by decide)
      refine g_iadd rfl ?_
      refine g_istore_n (n := 1) (lo' := [(2, vI (0 + 1)), (0, vI s)]) rfl rfl ?_
      refine g_iinc (n := 2) (lo' := [(1, vI ((0 + z8) + z20)), (0, vI s)]) rfl rfl rfl ?_
      refine g_goto rfl ?_
      refine g_iload_n (n := 2) rfl rfl ?_
      refine g_bipush (by decide) rfl ?_
      refine g_icmp_ge (by omega) (by omega) (by decide) (by decide) rfl ?_ ?_
      · intro kk25
        exfalso; omega
      · intro kk26
        refine g_iload_n (n := 1) rfl rfl ?_
        refine g_iload_n (n := 0) rfl rfl ?_
        refine g_iload_n (n := 2) rfl rfl ?_
        refine g_ishr rfl ?_
        intro z27 h28 h29 h30
        have h31 : z27 = s / 4 := b_shrN h28 (by decide) (by omega) (by omega) (by decide) (by decide)
        refine g_iconst rfl ?_
        refine g_iand rfl ?_
        intro z32 h33 h34 h35
        have h36 : z32 = z27 % 2 := b_modN (k := 1) h33 (by decide) (by decide) (by decide)
        refine g_iadd rfl ?_
        refine g_istore_n (n := 1) (lo' := [(2, vI ((0 + 1) + 1)), (0, vI s)]) rfl rfl ?_
        refine g_iinc (n := 2) (lo' := [(1, vI (((0 + z8) + z20) + z32)), (0, vI s)]) rfl rfl rfl ?_
        refine g_goto rfl ?_
        refine g_iload_n (n := 2) rfl rfl ?_
        refine g_bipush (by decide) rfl ?_
        refine g_icmp_ge (by omega) (by omega) (by decide) (by decide) rfl ?_ ?_
        · intro kk37
          exfalso; omega
        · intro kk38
          refine g_iload_n (n := 1) rfl rfl ?_
          refine g_iload_n (n := 0) rfl rfl ?_
          refine g_iload_n (n := 2) rfl rfl ?_
          refine g_ishr rfl ?_
          intro z39 h40 h41 h42
          have h43 : z39 = s / 8 := b_shrN h40 (by decide) (by omega) (by omega) (by decide) (by decide)
          refine g_iconst rfl ?_
          refine g_iand rfl ?_
          intro z44 h45 h46 h47
          have h48 : z44 = z39 % 2 := b_modN (k := 1) h45 (by decide) (by decide) (by decide)
          refine g_iadd rfl ?_
          refine g_istore_n (n := 1) (lo' := [(2, vI (((0 + 1) + 1) + 1)), (0, vI s)]) rfl rfl ?_
          refine g_iinc (n := 2) (lo' := [(1, vI ((((0 + z8) + z20) + z32) + z44)), (0, vI s)]) rfl rfl rfl ?_
          refine g_goto rfl ?_
          refine g_iload_n (n := 2) rfl rfl ?_
          refine g_bipush (by decide) rfl ?_
          refine g_icmp_ge (by omega) (by omega) (by decide) (by decide) rfl ?_ ?_
          · intro kk49
            exfalso; omega
          · intro kk50
            refine g_iload_n (n := 1) rfl rfl ?_
            refine g_iload_n (n := 0) rfl rfl ?_
            refine g_iload_n (n := 2) rfl rfl ?_
            refine g_ishr rfl ?_
            intro z51 h52 h53 h54
            have h55 : z51 = s / 16 := b_shrN h52 (by decide) (by omega) (by omega) (by decide) (by decide)
            refine g_iconst rfl ?_
            refine g_iand rfl ?_
            intro z56 h57 h58 h59
            have h60 : z56 = z51 % 2 := b_modN (k := 1) h57 (by decide) (by decide) (by decide)
            refine g_iadd rfl ?_
            refine g_istore_n (n := 1) (lo' := [(2, vI ((((0 + 1) + 1) + 1) + 1)), (0, vI s)]) rfl rfl ?_
            refine g_iinc (n := 2) (lo' := [(1, vI (((((0 + z8) + z20) + z32) + z44) + z56)), (0, vI s)]) rfl rfl rfl ?_
            refine g_goto rfl ?_
            refine g_iload_n (n := 2) rfl rfl ?_
            refine g_bipush (by decide) rfl ?_
            refine g_icmp_ge (by omega) (by omega) (by decide) (by decide) rfl ?_ ?_
            · intro kk61
              exfalso; omega
            · intro kk62
              refine g_iload_n (n := 1) rfl rfl ?_
              refine g_iload_n (n := 0) rfl rfl ?_
              refine g_iload_n (n := 2) rfl rfl ?_
              refine g_ishr rfl ?_
              intro z63 h64 h65 h66
              have h67 : z63 = s / 32 := b_shrN h64 (by decide) (by omega) (by omega) (by decide) (by decide)
              refine g_iconst rfl ?_
              refine g_iand rfl ?_
              intro z68 h69 h70 h71
              have h72 : z68 = z63 % 2 := b_modN (k := 1) h69 (by decide) (by decide) (by decide)
              refine g_iadd rfl ?_
              refine g_istore_n (n := 1) (lo' := [(2, vI (((((0 + 1) + 1) + 1) + 1) + 1)), (0, vI s)]) rfl rfl ?_
              refine g_iinc (n := 2) (lo' := [(1, vI ((((((0 + z8) + z20) + z32) + z44) + z56) + z68)), (0, vI s)]) rfl rfl rfl ?_
              refine g_goto rfl ?_
              refine g_iload_n (n := 2) rfl rfl ?_
              refine g_bipush (by decide) rfl ?_
              refine g_icmp_ge (by omega) (by omega) (by decide) (by decide) rfl ?_ ?_
              · intro kk73
                refine g_iload_n (n := 1) rfl rfl ?_
                refine g_iret rfl rfl ?_
                refine ⟨_, _, rfl, rfl, ?_⟩
                simp only [h7, h12, h19, h24, h31, h36, h43, h48, h55, h60, h67, h72, Int.zero_add]
              · intro kk74
                exfalso; omega
theorem d_sort {V : cg_V} {d q : Nat} (hd : 0 ≤ d) (hq : 0 ≤ q) {m : kM} (hm : kI m) {c : Int} (h_c : (-2147483648) ≤ c ∧ c ≤ 2147483647) : cg_S V d q mX10_sort [vI c] (kl m) (R_I (fun z m' => (m = m') ∧ ((z = 1 ∧ 97 ≤ c ∧ c ≤ 122) ∨ (z = 2 ∧ 48 ≤ c ∧ c ≤ 57) ∨ (z = 0 ∧ (c < 48 ∨ (57 < c ∧ c < 97) ∨ 122 < c))))) := by
  refine cg_of (List.mem_of_getElem? (show ae_MT[124]? = some mX10_sort from rfl)) (Nat.le_of_ble_eq_true rfl) ?_
  show cg_G V mX10_sort d q _ 0 [(0, vI c)] [] (kl m) 0 0
  refine g_iload_n (n := 0) rfl rfl ?_
  refine g_bipush (by decide) rfl ?_
  refine g_icmp_lt (by omega) (by omega) (by decide) (by decide) rfl ?_ ?_
  · intro kk1
    refine g_iload_n (n := 0) rfl rfl ?_
    refine g_bipush (by decide) rfl ?_
    refine g_icmp_lt (by omega) (by omega) (by decide) (by decide) rfl ?_ ?_
    · intro kk2
      refine g_iconst rfl ?_
      refine g_iret rfl rfl ?_
      exact ⟨_, _, rfl, rfl, (by omega)⟩
    · intro kk3
      refine g_iload_n (n := 0) rfl rfl ?_
      refine g_bipush (by decide) rfl ?_
      refine g_icmp_gt (by omega) (by omega) (by decide) (by decide) rfl ?_ ?_
      · intro kk4
        refine g_iconst rfl ?_
        refine g_iret rfl rfl ?_
        exact ⟨_, _, rfl, rfl, (by omega)⟩
      · intro kk5
        refine g_iconst rfl ?_
        refine g_goto rfl ?_
        refine g_iret rfl rfl ?_
        exact ⟨_, _, rfl, rfl, (by omega)⟩
  · intro kk6
    refine g_iload_n (n := 0) rfl rfl ?_
    refine g_bipush (by decide) rfl ?_
    refine g_icmp_gt (by omega) (by omega) (by decide) (by decide) rfl ?_ ?_
    · intro kk7
      refine g_iload_n (n := 0) rfl rfl ?_
      refine g_bipush (by decide) rfl ?_
      refine g_icmp_lt (by omega) (by omega) (by decide) (by decide) rfl ?_ ?_
      · intro kk8
        exfalso; omega
      · intro kk9
        refine g_iload_n (n := 0) rfl rfl ?_
        refine g_bipush (by decide) rfl ?_
        refine g_icmp_gt (by omega) (by omega) (by decide) (by decide) rfl ?_ ?_
        · intro kk10
          refine g_iconst rfl ?_
          refine g_iret rfl rfl ?_
          exact ⟨_, _, rfl, rfl, (by omega)⟩
        · intro kk11
          exfalso; omega
    · intro kk12
      refine g_iconst rfl ?_
      refine g_goto rfl ?_
      refine g_iret rfl rfl ?_
      exact ⟨_, _, rfl, rfl, (by omega)⟩
theorem d_isRoom {V : cg_V} {d q : Nat} (hd : 1 ≤ d) (hq : 25 ≤ q) {m : kM} (hm : kI m) {a : Int} (h_a : (-2147483648) ≤ a ∧ a ≤ 2147483647) : cg_S V d q mX10_isRoom [vR 61, vI a] (kl m) (R_I (fun z m' => (m = m') ∧ ((z = 1 ∧ 0 ≤ a ∧ a < m.1 25) ∨ (z = 0 ∧ (a < 0 ∨ m.1 25 ≤ a))))) := by
  refine cg_of (List.mem_of_getElem? (show ae_MT[139]? = some mX10_isRoom from rfl)) (Nat.le_of_ble_eq_true rfl) ?_
  show cg_G V mX10_isRoom d q _ 0 [(0, vR 61), (1, vI a)] [] (kl m) 0 0
  have h1 : 2 ≤ m.1 25 ∧ m.1 25 ≤ 6 := hm.1 25
  refine g_iload_n (n := 1) rfl rfl ?_
  refine g_i2l (by omega) (by omega) rfl ?_
  refine g_lconst (x := 0) (by decide) rfl ?_
  refine g_aload_n (n := 0) rfl rfl ?_
  refine g_getf (v := vI (m.1 25)) rfl (kl_61 _) rfl ?_
  refine g_iconst rfl ?_
  refine g_isub rfl ?_
  refine g_i2l (by omega) (by omega) rfl ?_
  refine c_sI (ps := [vL (m.1 25 - 1), vL 0, vL a]) (r := []) (as := [vL a, vL 0, vL (m.1 25 - 1)]) (cs' := 0) (sl' := 0) rfl rfl rfl rfl rfl rfl (d_in (d := d - 1) (q := q - (6 + 19)) (by omega) (by omega) hm (a := a) (b := 0) (c := (m.1 25 - 1)) (show (-9223372036854775808) ≤ a ∧ a ≤ 9223372036854775807 by omega) (show (-9223372036854775808) ≤ 0 ∧ 0 ≤ 9223372036854775807 by omega) (show (-9223372036854775808) ≤ (m.1 25 - 1) ∧ (m.1 25 - 1) ≤ 9223372036854775807 by omega)) (by omega) (show 6 + 19 ≤ q by omega) (Nat.le_of_ble_eq_true rfl) (Nat.le_of_ble_eq_true rfl) rfl rfl rfl ?_
  rintro z2 m3 ⟨rfl, p5⟩
  refine g_zret rfl rfl (by omega) ?_
  exact ⟨_, _, rfl, rfl, (by omega)⟩
theorem d_isDoor {V : cg_V} {d q : Nat} (hd : 1 ≤ d) (hq : 25 ≤ q) {m : kM} (hm : kI m) {a : Int} (h_a : (-2147483648) ≤ a ∧ a ≤ 2147483647) : cg_S V d q mX10_isDoor [vR 61, vI a] (kl m) (R_I (fun z m' => (m = m') ∧ ((z = 1 ∧ 0 ≤ a ∧ a < m.1 26) ∨ (z = 0 ∧ (a < 0 ∨ m.1 26 ≤ a))))) := by
  refine cg_of (List.mem_of_getElem? (show ae_MT[140]? = some mX10_isDoor from rfl)) (Nat.le_of_ble_eq_true rfl) ?_
  show cg_G V mX10_isDoor d q _ 0 [(0, vR 61), (1, vI a)] [] (kl m) 0 0
  have h1 : 0 ≤ m.1 26 ∧ m.1 26 ≤ 10 := hm.1 26
  refine g_iload_n (n := 1) rfl rfl ?_
  refine g_i2l (by omega) (by omega) rfl ?_
  refine g_lconst (x := 0) (by decide) rfl ?_
  refine g_aload_n (n := 0) rfl rfl ?_
  refine g_getf (v := vI (m.1 26)) rfl (kl_61 _) rfl ?_
  refine g_iconst rfl ?_
  refine g_isub rfl ?_
  refine g_i2l (by omega) (by omega) rfl ?_
  refine c_sI (ps := [vL (m.1 26 - 1), vL 0, vL a]) (r := []) (as := [vL a, vL 0, vL (m.1 26 - 1)]) (cs' := 0) (sl' := 0) rfl rfl rfl rfl rfl rfl (d_in (d := d - 1) (q := q - (6 + 19)) (by omega) (by omega) hm (a := a) (b := 0) (c := (m.1 26 - 1)) (show (-9223372036854775808) ≤ a ∧ a ≤ 9223372036854775807 by omega) (show (-9223372036854775808) ≤ 0 ∧ 0 ≤ 9223372036854775807 by omega) (show (-9223372036854775808) ≤ (m.1 26 - 1) ∧ (m.1 26 - 1) ≤ 9223372036854775807 by omega)) (by omega) (show 6 + 19 ≤ q by omega) (Nat.le_of_ble_eq_true rfl) (Nat.le_of_ble_eq_true rfl) rfl rfl rfl ?_
  rintro z2 m3 ⟨rfl, p5⟩
  refine g_zret rfl rfl (by omega) ?_
  exact ⟨_, _, rfl, rfl, (by omega)⟩
theorem d_isGuard {V : cg_V} {d q : Nat} (hd : 1 ≤ d) (hq : 25 ≤ q) {m : kM} (hm : kI m) {a : Int} (h_a : (-2147483648) ≤ a ∧ a ≤ 2147483647) : cg_S V d q mX10_isGuard [vI a] (kl m) (R_I (fun z m' => (m = m') ∧ ((z = 1 ∧ 0 ≤ a ∧ a ≤ 1) ∨ (z = 0 ∧ (a < 0 ∨ 1 < a))))) := by
  refine cg_of (List.mem_of_getElem? (show ae_MT[141]? = some mX10_isGuard from rfl)) (Nat.le_of_ble_eq_true rfl) ?_
  show cg_G V mX10_isGuard d q _ 0 [(0, vI a)] [] (kl m) 0 0
  refine g_iload_n (n := 0) rfl rfl ?_
  refine g_i2l (by omega) (by omega) rfl ?_
  refine g_lconst (x := 0) (by decide) rfl ?_
  refine g_lconst (x := 1) (by decide) rfl ?_
  refine c_sI (ps := [vL 1, vL 0, vL a]) (r := []) (as := [vL a, vL 0, vL 1]) (cs' := 0) (sl' := 0) rfl rfl rfl rfl rfl rfl (d_in (d := d - 1) (q := q - (6 + 19)) (by omega) (by omega) hm (a := a) (b := 0) (c := 1) (show (-9223372036854775808) ≤ a ∧ a ≤ 9223372036854775807 by omega) (show (-9223372036854775808) ≤ 0 ∧ 0 ≤ 9223372036854775807 by omega) (show (-9223372036854775808) ≤ 1 ∧ 1 ≤ 9223372036854775807 by omega)) (by omega) (show 6 + 19 ≤ q by omega) (Nat.le_of_ble_eq_true rfl) (Nat.le_of_ble_eq_true rfl) rfl rfl rfl ?_
  rintro z1 m2 ⟨rfl, p4⟩
  refine g_zret rfl rfl (by omega) ?_
  exact ⟨_, _, rfl, rfl, (by omega)⟩
theorem d_isCode {V : cg_V} {d q : Nat} (hd : 1 ≤ d) (hq : 25 ≤ q) {m : kM} (hm : kI m) {a : Int} (h_a : (-2147483648) ≤ a ∧ a ≤ 2147483647) : cg_S V d q mX10_isCode [vI a] (kl m) (R_I (fun z m' => (m = m') ∧ ((z = 1 ∧ 0 ≤ a ∧ a ≤ 99) ∨ (z = 0 ∧ (a < 0 ∨ 99 < a))))) := by
  refine cg_of (List.mem_of_getElem? (show ae_MT[152]? = some mX10_isCode from rfl)) (Nat.le_of_ble_eq_true rfl) ?_
  show cg_G V mX10_isCode d q _ 0 [(0, vI a)] [] (kl m) 0 0
  refine g_iload_n (n := 0) rfl rfl ?_
  refine g_i2l (by omega) (by omega) rfl ?_
  refine g_lconst (x := 0) (by decide) rfl ?_
  refine g_ldc2 (x := 99) (by decide) rfl ?_
  refine c_sI (ps := [vL 99, vL 0, vL a]) (r := []) (as := [vL a, vL 0, vL 99]) (cs' := 0) (sl' := 0) rfl rfl rfl rfl rfl rfl (d_in (d := d - 1) (q := q - (6 + 19)) (by omega) (by omega) hm (a := a) (b := 0) (c := 99) (show (-9223372036854775808) ≤ a ∧ a ≤ 9223372036854775807 by omega) (show (-9223372036854775808) ≤ 0 ∧ 0 ≤ 9223372036854775807 by omega) (show (-9223372036854775808) ≤ 99 ∧ 99 ≤ 9223372036854775807 by omega)) (by omega) (show 6 + 19 ≤ q by omega) (Nat.le_of_ble_eq_true rfl) (Nat.le_of_ble_eq_true rfl) rfl rfl rfl ?_
  rintro z1 m2 ⟨rfl, p4⟩
  refine g_zret rfl rfl (by omega) ?_
  exact ⟨_, _, rfl, rfl, (by omega)⟩
theorem d_isNight {V : cg_V} {d q : Nat} (hd : 1 ≤ d) (hq : 25 ≤ q) {m : kM} (hm : kI m) {a : Int} (h_a : (-2147483648) ≤ a ∧ a ≤ 2147483647) : cg_S V d q mX10_isNight [vI a] (kl m) (R_I (fun z m' => (m = m') ∧ ((z = 1 ∧ 1 ≤ a ∧ a ≤ 10) ∨ (z = 0 ∧ (a < 1 ∨ 10 < a))))) := by
  refine cg_of (List.mem_of_getElem? (show ae_MT[183]? = some mX10_isNight from rfl)) (Nat.le_of_ble_eq_true rfl) ?_
  show cg_G V mX10_isNight d q _ 0 [(0, vI a)] [] (kl m) 0 0
  refine g_iload_n (n := 0) rfl rfl ?_
  refine g_i2l (by omega) (by omega) rfl ?_
  refine g_lconst (x := 1) (by decide) rfl ?_
  refine g_ldc2 (x := 10) (by decide) rfl ?_
  refine c_sI (ps := [vL 10, vL 1, vL a]) (r := []) (as := [vL a, vL 1, vL 10]) (cs' := 0) (sl' := 0) rfl rfl rfl rfl rfl rfl (d_in (d := d - 1) (q := q - (6 + 19)) (by omega) (by omega) hm (a := a) (b := 1) (c := 10) (show (-9223372036854775808) ≤ a ∧ a ≤ 9223372036854775807 by omega) (show (-9223372036854775808) ≤ 1 ∧ 1 ≤ 9223372036854775807 by omega) (show (-9223372036854775808) ≤ 10 ∧ 10 ≤ 9223372036854775807 by omega)) (by omega) (show 6 + 19 ≤ q by omega) (Nat.le_of_ble_eq_true rfl) (Nat.le_of_ble_eq_true rfl) rfl rfl rfl ?_
  rintro z1 m2 ⟨rfl, p4⟩
  refine g_zret rfl rfl (by omega) ?_
  exact ⟨_, _, rfl, rfl, (by omega)⟩
theorem d_isDoorLine {V : cg_V} {d q : Nat} (hd : 1 ≤ d) (hq : 25 ≤ q) {m : kM} (hm : kI m) {a : Int} (h_a : (-2147483648) ≤ a ∧ a ≤ 2147483647) : cg_S V d q mX10_isDoorLine [vI a] (kl m) (R_I (fun z m' => (m = m') ∧ ((z = 1 ∧ 1 ≤ a ∧ a ≤ 6) ∨ (z = 0 ∧ (a < 1 ∨ 6 < a))))) := by
  refine cg_of (List.mem_of_getElem? (show ae_MT[132]? = some mX10_isDoorLine from rfl)) (Nat.le_of_ble_eq_true rfl) ?_
  show cg_G V mX10_isDoorLine d q _ 0 [(0, vI a)] [] (kl m) 0 0
  refine g_iload_n (n := 0) rfl rfl ?_
  refine g_i2l (by omega) (by omega) rfl ?_
  refine g_lconst (x := 1) (by decide) rfl ?_
  refine g_ldc2 (x := 6) (by decide) rfl ?_
  refine c_sI (ps := [vL 6, vL 1, vL a]) (r := []) (as := [vL a, vL 1, vL 6]) (cs' := 0) (sl' := 0) rfl rfl rfl rfl rfl rfl (d_in (d := d - 1) (q := q - (6 + 19)) (by omega) (by omega) hm (a := a) (b := 1) (c := 6) (show (-9223372036854775808) ≤ a ∧ a ≤ 9223372036854775807 by omega) (show (-9223372036854775808) ≤ 1 ∧ 1 ≤ 9223372036854775807 by omega) (show (-9223372036854775808) ≤ 6 ∧ 6 ≤ 9223372036854775807 by omega)) (by omega) (show 6 + 19 ≤ q by omega) (Nat.le_of_ble_eq_true rfl) (Nat.le_of_ble_eq_true rfl) rfl rfl rfl ?_
  rintro z1 m2 ⟨rfl, p4⟩
  refine g_zret rfl rfl (by omega) ?_
  exact ⟨_, _, rfl, rfl, (by omega)⟩
theorem d_room {V : cg_V} {d q : Nat} (hd : 2 ≤ d) (hq : 46 ≤ q) {m : kM} (hm : kI m) {r w : Int} (h_r : (-2147483648) ≤ r ∧ r ≤ 2147483647) (h_w : (-2147483648) ≤ w ∧ w ≤ 2147483647) : cg_S V d q mX10_room [vR 61, vI r, vI w] (kl m) (R_I (fun z m' => (m = m') ∧ (-2147483648 ≤ z) ∧ (z < 2147483648))) := by
  refine cg_of (List.mem_of_getElem? (show ae_MT[142]? = some mX10_room from rfl)) (Nat.le_of_ble_eq_true rfl) ?_
  show cg_G V mX10_room d q _ 0 [(0, vR 61), (1, vI r), (2, vI w)] [] (kl m) 0 0
  refine g_aload_n (n := 0) rfl rfl ?_
  refine g_iload_n (n := 1) rfl rfl ?_
  have h1 : 2 ≤ m.1 25 ∧ m.1 25 ≤ 6 := hm.1 25
  refine c_vI (i := 61) (ps := [vI r]) (r := []) (as := [vR 61, vI r]) (cs' := 0) (sl' := 0) rfl rfl rfl rfl rfl rfl (kl_61 _) (d_isRoom (d := d - 1) (q := q - (2 + 19)) (by omega) (by omega) hm (a := r) (show (-2147483648) ≤ r ∧ r ≤ 2147483647 by omega)) (by omega) (show 2 + 19 ≤ q by omega) (Nat.le_of_ble_eq_true rfl) (Nat.le_of_ble_eq_true rfl) rfl rfl rfl ?_
  rintro z2 m3 ⟨rfl, p5⟩
  refine g_if_ne (by omega) (by omega) rfl ?_ ?_
  · intro kk6
    refine g_iload_n (n := 2) rfl rfl ?_
    have kk7 : w < 0 ∨ 3 < w ∨ w = 0 ∨ w = 1 ∨ w = 2 ∨ w = 3 := by omega
    have J8 : (w < 0 ∨ 3 < w) → cg_G V mX10_room d q (R_I (fun z m' => (m = m') ∧ (-2147483648 ≤ z) ∧ (z < 2147483648))) 117 [(0, vR 61), (1, vI r), (2, vI w)] [] (kl m) 0 0 := by
      intro kk9
      refine g_bipush (by decide) rfl ?_
      refine g_iret rfl rfl ?_
      exact ⟨_, _, rfl, rfl, (by omega), (by omega)⟩
    rcases kk7 with kk7 | kk7 | kk7 | kk7 | kk7 | kk7
    · refine g_tsw_out (tg := 117) (by omega) (by omega) rfl (by omega) (by decide) ?_
      exact J8 (by omega)
    · refine g_tsw_out (tg := 117) (by omega) (by omega) rfl (by omega) (by decide) ?_
      exact J8 (by omega)
    · refine g_tsw_in (tg := 44) (o9 := 32) (by omega) (by omega) rfl (by omega) (by omega) (by rw [kk7]; rfl) (by decide) ?_
      refine g_aload_n (n := 0) rfl rfl ?_
      refine g_getf (v := vR 62) rfl (kl_61 _) rfl ?_
      refine g_iconst rfl ?_
      have h10 : (-2147483648) ≤ m.2.1 62 5 ∧ m.2.1 62 5 ≤ 2147483647 := hm.2 62 5 (by omega) (show 5 < (48 : Int) by omega)
      refine g_iald (f := m.2.1 62) rfl (kl_62 _) (by decide) (by omega) (by omega) ?_
      refine g_iload_n (n := 1) rfl rfl ?_
      refine g_ishr rfl ?_
      intro z11 h12 h13 h14
      refine g_iconst rfl ?_
      refine g_iand rfl ?_
      intro z16 h17 h18 h19
      have h20 : z16 = z11 % 2 := b_modN (k := 1) h17 (by decide) (by decide) (by decide)
      refine g_iret rfl rfl ?_
      exact ⟨_, _, rfl, rfl, (by omega), (by omega)⟩
    · refine g_tsw_in (tg := 55) (o9 := 43) (by omega) (by omega) rfl (by omega) (by omega) (by rw [kk7]; rfl) (by decide) ?_
      refine g_aload_n (n := 0) rfl rfl ?_
      refine g_getf (v := vR 62) rfl (kl_61 _) rfl ?_
      refine g_iconst rfl ?_
      have h21 : (-2147483648) ≤ m.2.1 62 0 ∧ m.2.1 62 0 ≤ 2147483647 := hm.2 62 0 (by omega) (show 0 < (48 : Int) by omega)
      refine g_iald (f := m.2.1 62) rfl (kl_62 _) (by decide) (by omega) (by omega) ?_
      refine g_iload_n (n := 1) rfl rfl ?_
      refine g_icmp_ne (by omega) (by omega) (by omega) (by omega) rfl ?_ ?_
      · intro kk22
        refine g_iconst rfl ?_
        refine g_aload_n (n := 0) rfl rfl ?_
        refine g_getf (v := vR 62) rfl (kl_61 _) rfl ?_
        refine g_iconst rfl ?_
        have h23 : (-2147483648) ≤ m.2.1 62 1 ∧ m.2.1 62 1 ≤ 2147483647 := hm.2 62 1 (by omega) (show 1 < (48 : Int) by omega)
        refine g_iald (f := m.2.1 62) rfl (kl_62 _) (by decide) (by omega) (by omega) ?_
        refine g_iload_n (n := 1) rfl rfl ?_
        refine g_icmp_ne (by omega) (by omega) (by omega) (by omega) rfl ?_ ?_
        · intro kk24
          refine g_iconst rfl ?_
          refine g_iadd rfl ?_
          refine g_iret rfl rfl ?_
          exact ⟨_, _, rfl, rfl, (by omega), (by omega)⟩
        · intro kk25
          refine g_iconst rfl ?_
          refine g_goto rfl ?_
          refine g_iadd rfl ?_
          refine g_iret rfl rfl ?_
          exact ⟨_, _, rfl, rfl, (by omega), (by omega)⟩
      · intro kk26
        refine g_iconst rfl ?_
        refine g_goto rfl ?_
        refine g_aload_n (n := 0) rfl rfl ?_
        refine g_getf (v := vR 62) rfl (kl_61 _) rfl ?_
        refine g_iconst rfl ?_
        have h27 : (-2147483648) ≤ m.2.1 62 1 ∧ m.2.1 62 1 ≤ 2147483647 := hm.2 62 1 (by omega) (show 1 < (48 : Int) by omega)
        refine g_iald (f := m.2.1 62) rfl (kl_62 _) (by decide) (by omega) (by omega) ?_
        refine g_iload_n (n := 1) rfl rfl ?_
        refine g_icmp_ne (by omega) (by omega) (by omega) (by omega) rfl ?_ ?_
        · intro kk28
          refine g_iconst rfl ?_
          refine g_iadd rfl ?_
          refine g_iret rfl rfl ?_
          exact ⟨_, _, rfl, rfl, (by omega), (by omega)⟩
        · intro kk29
          refine g_iconst rfl ?_
          refine g_goto rfl ?_
          refine g_iadd rfl ?_
          refine g_iret rfl rfl ?_
          exact ⟨_, _, rfl, rfl, (by omega), (by omega)⟩
    · refine g_tsw_in (tg := 87) (o9 := 75) (by omega) (by omega) rfl (by omega) (by omega) (by rw [kk7]; rfl) (by decide) ?_
      refine g_aload_n (n := 0) rfl rfl ?_
      refine g_getf (v := vR 62) rfl (kl_61 _) rfl ?_
      refine g_iconst rfl ?_
      have h30 : (-2147483648) ≤ m.2.1 62 4 ∧ m.2.1 62 4 ≤ 2147483647 := hm.2 62 4 (by omega) (show 4 < (48 : Int) by omega)
      refine g_iald (f := m.2.1 62) rfl (kl_62 _) (by decide) (by omega) (by omega) ?_
      refine g_iload_n (n := 1) rfl rfl ?_
      refine g_icmp_ne (by omega) (by omega) (by omega) (by omega) rfl ?_ ?_
      · intro kk31
        refine g_iconst rfl ?_
        refine g_iret rfl rfl ?_
        exact ⟨_, _, rfl, rfl, (by omega), (by omega)⟩
      · intro kk32
        refine g_iconst rfl ?_
        refine g_goto rfl ?_
        refine g_iret rfl rfl ?_
        exact ⟨_, _, rfl, rfl, (by omega), (by omega)⟩
    · refine g_tsw_in (tg := 103) (o9 := 91) (by omega) (by omega) rfl (by omega) (by omega) (by rw [kk7]; rfl) (by decide) ?_
      refine g_aload_n (n := 0) rfl rfl ?_
      have h33 : 0 ≤ m.1 27 ∧ m.1 27 ≤ 5 := hm.1 27
      refine g_getf (v := vI (m.1 27)) rfl (kl_61 _) rfl ?_
      refine g_iload_n (n := 1) rfl rfl ?_
      refine g_icmp_ne (by omega) (by omega) (by omega) (by omega) rfl ?_ ?_
      · intro kk34
        refine g_iconst rfl ?_
        refine g_iret rfl rfl ?_
        exact ⟨_, _, rfl, rfl, (by omega), (by omega)⟩
      · intro kk35
        refine g_iconst rfl ?_
        refine g_goto rfl ?_
        refine g_iret rfl rfl ?_
        exact ⟨_, _, rfl, rfl, (by omega), (by omega)⟩
  · intro kk36
    refine g_bipush (by decide) rfl ?_
    refine g_iret rfl rfl ?_
    exact ⟨_, _, rfl, rfl, (by omega), (by omega)⟩
theorem d_door {V : cg_V} {d q : Nat} (hd : 2 ≤ d) (hq : 46 ≤ q) {m : kM} (hm : kI m) {a w : Int} (h_a : (-2147483648) ≤ a ∧ a ≤ 2147483647) (h_w : (-2147483648) ≤ w ∧ w ≤ 2147483647) : cg_S V d q mX10_door [vR 61, vI a, vI w] (kl m) (R_I (fun z m' => (m = m') ∧ (-3 ≤ z) ∧ (z ≤ 5) ∧ (DDZ m a w z))) := by
  refine cg_of (List.mem_of_getElem? (show ae_MT[143]? = some mX10_door from rfl)) (Nat.le_of_ble_eq_true rfl) ?_
  show cg_G V mX10_door d q _ 0 [(0, vR 61), (1, vI a), (2, vI w)] [] (kl m) 0 0
  refine g_aload_n (n := 0) rfl rfl ?_
  refine g_iload_n (n := 1) rfl rfl ?_
  have h1 : 0 ≤ m.1 26 ∧ m.1 26 ≤ 10 := hm.1 26
  refine c_vI (i := 61) (ps := [vI a]) (r := []) (as := [vR 61, vI a]) (cs' := 0) (sl' := 0) rfl rfl rfl rfl rfl rfl (kl_61 _) (d_isDoor (d := d - 1) (q := q - (2 + 19)) (by omega) (by omega) hm (a := a) (show (-2147483648) ≤ a ∧ a ≤ 2147483647 by omega)) (by omega) (show 2 + 19 ≤ q by omega) (Nat.le_of_ble_eq_true rfl) (Nat.le_of_ble_eq_true rfl) rfl rfl rfl ?_
  rintro z2 m3 ⟨rfl, p5⟩
  refine g_if_ne (by omega) (by omega) rfl ?_ ?_
  · intro kk6
    refine g_iload_n (n := 2) rfl rfl ?_
    refine g_i2l (by omega) (by omega) rfl ?_
    refine g_lconst (x := 0) (by decide) rfl ?_
    refine g_ldc2 (x := 3) (by decide) rfl ?_
    refine c_sI (ps := [vL 3, vL 0, vL w]) (r := []) (as := [vL w, vL 0, vL 3]) (cs' := 0) (sl' := 0) rfl rfl rfl rfl rfl rfl (d_in (d := d - 1) (q := q - (6 + 19)) (by omega) (by omega) hm (a := w) (b := 0) (c := 3) (show (-9223372036854775808) ≤ w ∧ w ≤ 9223372036854775807 by omega) (show (-9223372036854775808) ≤ 0 ∧ 0 ≤ 9223372036854775807 by omega) (show (-9223372036854775808) ≤ 3 ∧ 3 ≤ 9223372036854775807 by omega)) (by omega) (show 6 + 19 ≤ q by omega) (Nat.le_of_ble_eq_true rfl) (Nat.le_of_ble_eq_true rfl) rfl rfl rfl ?_
    rintro z7 m8 ⟨rfl, p10⟩
    refine g_if_eq (by omega) (by omega) rfl ?_ ?_
    · intro kk11
      refine g_bipush (by decide) rfl ?_
      refine g_iret rfl rfl ?_
      exact ⟨_, _, rfl, rfl, by omega, by omega, (by unfold DDZ; omega)⟩
    · intro kk12
      refine g_aload_n (n := 0) rfl rfl ?_
      refine g_getf (v := vR 66) rfl (kl_61 _) rfl ?_
      refine g_iconst rfl ?_
      refine g_iload_n (n := 1) rfl rfl ?_
      refine g_imul rfl ?_
      refine g_nrm ?_
      intro z13 h14 h15 h16 h17
      refine g_iload_n (n := 2) rfl rfl ?_
      refine g_iadd rfl ?_
      refine g_nrm ?_
      intro z18 h19 h20 h21 h22
      have h23 : 0 ≤ m.2.1 66 z18 ∧ m.2.1 66 z18 ≤ 5 := hm.2 66 z18 (by omega) (show z18 < (40 : Int) by omega)
      refine g_iald (f := m.2.1 66) rfl (kl_66 _) (by decide) (by omega) (by omega) ?_
      refine g_goto rfl ?_
      refine g_iret rfl rfl ?_
      exact ⟨_, _, rfl, rfl, by omega, by omega, (by unfold DDZ; rw [show 4 * a + w = z18 by omega]; omega)⟩
  · intro kk24
    refine g_bipush (by decide) rfl ?_
    refine g_iret rfl rfl ?_
    exact ⟨_, _, rfl, rfl, by omega, by omega, (by unfold DDZ; omega)⟩
theorem d_as {V : cg_V} {d q : Nat} (hd : 2 ≤ d) (hq : 46 ≤ q) {m : kM} (hm : kI m) {a w : Int} (h_a : (-2147483648) ≤ a ∧ a ≤ 2147483647) (h_w : (-2147483648) ≤ w ∧ w ≤ 2147483647) : cg_S V d q mX10_as [vR 61, vI a, vI w] (kl m) (R_I (fun z m' => (m = m') ∧ (-4 ≤ z) ∧ (z ≤ 2) ∧ (AMZ m a w z))) := by
  refine cg_of (List.mem_of_getElem? (show ae_MT[144]? = some mX10_as from rfl)) (Nat.le_of_ble_eq_true rfl) ?_
  show cg_G V mX10_as d q _ 0 [(0, vR 61), (1, vI a), (2, vI w)] [] (kl m) 0 0
  refine g_aload_n (n := 0) rfl rfl ?_
  refine g_iload_n (n := 1) rfl rfl ?_
  have h1 : 0 ≤ m.1 26 ∧ m.1 26 ≤ 10 := hm.1 26
  refine c_vI (i := 61) (ps := [vI a]) (r := []) (as := [vR 61, vI a]) (cs' := 0) (sl' := 0) rfl rfl rfl rfl rfl rfl (kl_61 _) (d_isDoor (d := d - 1) (q := q - (2 + 19)) (by omega) (by omega) hm (a := a) (show (-2147483648) ≤ a ∧ a ≤ 2147483647 by omega)) (by omega) (show 2 + 19 ≤ q by omega) (Nat.le_of_ble_eq_true rfl) (Nat.le_of_ble_eq_true rfl) rfl rfl rfl ?_
  rintro z2 m3 ⟨rfl, p5⟩
  refine g_if_ne (by omega) (by omega) rfl ?_ ?_
  · intro kk6
    refine g_iload_n (n := 2) rfl rfl ?_
    refine g_i2l (by omega) (by omega) rfl ?_
    refine g_lconst (x := 0) (by decide) rfl ?_
    refine g_ldc2 (x := 7) (by decide) rfl ?_
    refine c_sI (ps := [vL 7, vL 0, vL w]) (r := []) (as := [vL w, vL 0, vL 7]) (cs' := 0) (sl' := 0) rfl rfl rfl rfl rfl rfl (d_in (d := d - 1) (q := q - (6 + 19)) (by omega) (by omega) hm (a := w) (b := 0) (c := 7) (show (-9223372036854775808) ≤ w ∧ w ≤ 9223372036854775807 by omega) (show (-9223372036854775808) ≤ 0 ∧ 0 ≤ 9223372036854775807 by omega) (show (-9223372036854775808) ≤ 7 ∧ 7 ≤ 9223372036854775807 by omega)) (by omega) (show 6 + 19 ≤ q by omega) (Nat.le_of_ble_eq_true rfl) (Nat.le_of_ble_eq_true rfl) rfl rfl rfl ?_
    rintro z7 m8 ⟨rfl, p10⟩
    refine g_if_ne (by omega) (by omega) rfl ?_ ?_
    · intro kk11
      refine g_aload_n (n := 0) rfl rfl ?_
      refine g_getf (v := vR 66) rfl (kl_61 _) rfl ?_
      refine g_iconst rfl ?_
      refine g_iload_n (n := 1) rfl rfl ?_
      refine g_imul rfl ?_
      refine g_nrm ?_
      intro z12 h13 h14 h15 h16
      refine g_iconst rfl ?_
      refine g_iadd rfl ?_
      refine g_nrm ?_
      intro z17 h18 h19 h20 h21
      have h22 : 0 ≤ m.2.1 66 z17 ∧ m.2.1 66 z17 ≤ 5 := hm.2 66 z17 (by omega) (show z17 < (40 : Int) by omega)
      refine g_iald (f := m.2.1 66) rfl (kl_66 _) (by decide) (by omega) (by omega) ?_
      refine g_istore_n (n := 3) (lo' := [(0, vR 61), (1, vI a), (2, vI w)]) rfl rfl ?_
      have eK : m.2.1 66 (4 * a + 2) = m.2.1 66 z17 := by rw [show 4 * a + 2 = z17 by omega]
      have J52_1 : ∀ x52_1 : Int, (0 ≤ x52_1 ∧ x52_1 ≤ 1) → ((x52_1 = 1 ∧ m.2.1 66 (4 * a + 2) ≠ 2 ∧ m.2.1 66 (4 * a + 2) ≠ 5) ∨ (x52_1 = 0 ∧ (m.2.1 66 (4 * a + 2) = 2 ∨ m.2.1 66 (4 * a + 2) = 5))) → cg_G V mX10_as d q (R_I (fun z m' => (m = m') ∧ (-4 ≤ z) ∧ (z ≤ 2) ∧ (AMZ m a w z))) 52 [(3, vI (m.2.1 66 z17)), (0, vR 61), (1, vI a), (2, vI w)] [vI x52_1] (kl m) 0 0 := by
        intro x52_1 hx52_1_0 hx52_1_1
        refine g_istore (n := 4) (lo' := [(3, vI (m.2.1 66 z17)), (0, vR 61), (1, vI a), (2, vI w)]) rfl rfl ?_
        have J140_2 : ∀ x140_2 : Int, (0 ≤ x140_2 ∧ x140_2 ≤ 1) → ((x140_2 = 1 ∧ amk (m.2.1 66 (4 * a + 2)) w) ∨ (x140_2 = 0 ∧ ¬ amk (m.2.1 66 (4 * a + 2)) w)) → cg_G V mX10_as d q (R_I (fun z m' => (m = m') ∧ (-4 ≤ z) ∧ (z ≤ 2) ∧ (AMZ m a w z))) 140 [(4, vI x52_1), (3, vI (m.2.1 66 z17)), (0, vR 61), (1, vI a), (2, vI w)] [vI x140_2] (kl m) 0 0 := by
          intro x140_2 hx140_2_0 hx140_2_1
          refine g_istore (n := 5) (lo' := [(4, vI x52_1), (3, vI (m.2.1 66 z17)), (0, vR 61), (1, vI a), (2, vI w)]) rfl rfl ?_
          refine g_iload (n := 5) rfl rfl ?_
          refine g_if_ne (by omega) (by omega) rfl ?_ ?_
          · intro kk23
            refine g_iload_n (n := 3) rfl rfl ?_
            refine g_iconst rfl ?_
            refine g_icmp_ne (by omega) (by omega) (by decide) (by decide) rfl ?_ ?_
            · intro kk24
              refine g_iload (n := 4) rfl rfl ?_
              refine g_if_eq (by omega) (by omega) rfl ?_ ?_
              · intro kk25
                refine g_iconst rfl ?_
                refine g_iret rfl rfl ?_
                exact ⟨_, _, rfl, rfl, by omega, by omega, Or.inr (Or.inr (Or.inr ⟨by omega, by omega, by omega, by omega, (hx140_2_1.resolve_right (fun h => by omega)).2, by omega⟩))⟩
              · intro kk26
                refine g_iconst rfl ?_
                refine g_goto rfl ?_
                refine g_iret rfl rfl ?_
                exact ⟨_, _, rfl, rfl, by omega, by omega, Or.inr (Or.inr (Or.inr ⟨by omega, by omega, by omega, by omega, (hx140_2_1.resolve_right (fun h => by omega)).2, by omega⟩))⟩
            · intro kk27
              refine g_iconst rfl ?_
              refine g_goto rfl ?_
              refine g_iret rfl rfl ?_
              exact ⟨_, _, rfl, rfl, by omega, by omega, Or.inr (Or.inr (Or.inr ⟨by omega, by omega, by omega, by omega, (hx140_2_1.resolve_right (fun h => by omega)).2, by omega⟩))⟩
          · intro kk28
            refine g_bipush (by decide) rfl ?_
            refine g_goto rfl ?_
            refine g_iret rfl rfl ?_
            exact ⟨_, _, rfl, rfl, by omega, by omega, Or.inr (Or.inr (Or.inl ⟨by omega, by omega, by omega, by omega, (hx140_2_1.resolve_left (fun h => by omega)).2, rfl⟩))⟩
        refine g_iload_n (n := 2) rfl rfl ?_
        refine g_if_eq (by omega) (by omega) rfl ?_ ?_
        · intro kk29
          refine g_iconst rfl ?_
          refine g_goto rfl ?_
          exact J140_2 1 (by omega) (by unfold amk; omega)
        · intro kk30
          refine g_iload_n (n := 2) rfl rfl ?_
          refine g_iconst rfl ?_
          refine g_icmp_ne (by omega) (by omega) (by decide) (by decide) rfl ?_ ?_
          · intro kk31
            refine g_iload_n (n := 2) rfl rfl ?_
            refine g_iconst rfl ?_
            refine g_icmp_ne (by omega) (by omega) (by decide) (by decide) rfl ?_ ?_
            · intro kk32
              refine g_iload_n (n := 2) rfl rfl ?_
              refine g_iconst rfl ?_
              refine g_icmp_ne (by omega) (by omega) (by decide) (by decide) rfl ?_ ?_
              · intro kk33
                refine g_iload_n (n := 2) rfl rfl ?_
                refine g_iconst rfl ?_
                refine g_icmp_ne (by omega) (by omega) (by decide) (by decide) rfl ?_ ?_
                · intro kk34
                  refine g_iload_n (n := 2) rfl rfl ?_
                  refine g_iconst rfl ?_
                  refine g_icmp_ne (by omega) (by omega) (by decide) (by decide) rfl ?_ ?_
                  · intro kk35
                    refine g_iload_n (n := 2) rfl rfl ?_
                    refine g_bipush (by decide) rfl ?_
                    refine g_icmp_ne (by omega) (by omega) (by decide) (by decide) rfl ?_ ?_
                    · intro kk36
                      refine g_iload_n (n := 2) rfl rfl ?_
                      refine g_bipush (by decide) rfl ?_
                      refine g_icmp_ne (by omega) (by omega) (by decide) (by decide) rfl ?_ ?_
                      · intro kk37
                        refine g_iconst rfl ?_
                        exact J140_2 0 (by omega) (by unfold amk; omega)
                      · intro kk38
                        refine g_iload_n (n := 3) rfl rfl ?_
                        refine g_iconst rfl ?_
                        refine g_icmp_ne (by omega) (by omega) (by decide) (by decide) rfl ?_ ?_
                        · intro kk39
                          refine g_iconst rfl ?_
                          exact J140_2 0 (by omega) (by unfold amk; omega)
                        · intro kk40
                          refine g_iconst rfl ?_
                          refine g_goto rfl ?_
                          exact J140_2 1 (by omega) (by unfold amk; omega)
                    · intro kk41
                      refine g_iload_n (n := 3) rfl rfl ?_
                      refine g_iconst rfl ?_
                      refine g_icmp_eq (by omega) (by omega) (by decide) (by decide) rfl ?_ ?_
                      · intro kk42
                        refine g_iconst rfl ?_
                        refine g_goto rfl ?_
                        exact J140_2 1 (by omega) (by unfold amk; omega)
                      · intro kk43
                        refine g_iload_n (n := 2) rfl rfl ?_
                        refine g_bipush (by decide) rfl ?_
                        refine g_icmp_ne (by omega) (by omega) (by decide) (by decide) rfl ?_ ?_
                        · intro kk44
                          refine g_iconst rfl ?_
                          exact J140_2 0 (by omega) (by unfold amk; omega)
                        · intro kk45
                          exfalso; omega
                  · intro kk46
                    refine g_iload_n (n := 3) rfl rfl ?_
                    refine g_iconst rfl ?_
                    refine g_icmp_eq (by omega) (by omega) (by decide) (by decide) rfl ?_ ?_
                    · intro kk47
                      refine g_iconst rfl ?_
                      refine g_goto rfl ?_
                      exact J140_2 1 (by omega) (by unfold amk; omega)
                    · intro kk48
                      refine g_iload_n (n := 2) rfl rfl ?_
                      refine g_bipush (by decide) rfl ?_
                      refine g_icmp_ne (by omega) (by omega) (by decide) (by decide) rfl ?_ ?_
                      · intro kk49
                        refine g_iload_n (n := 2) rfl rfl ?_
                        refine g_bipush (by decide) rfl ?_
                        refine g_icmp_ne (by omega) (by omega) (by decide) (by decide) rfl ?_ ?_
                        · intro kk50
                          refine g_iconst rfl ?_
                          exact J140_2 0 (by omega) (by unfold amk; omega)
                        · intro kk51
                          exfalso; omega
                      · intro kk52
                        exfalso; omega
                · intro kk53
                  refine g_iload_n (n := 3) rfl rfl ?_
                  refine g_iconst rfl ?_
                  refine g_icmp_eq (by omega) (by omega) (by decide) (by decide) rfl ?_ ?_
                  · intro kk54
                    refine g_iconst rfl ?_
                    refine g_goto rfl ?_
                    exact J140_2 1 (by omega) (by unfold amk; omega)
                  · intro kk55
                    refine g_iload_n (n := 2) rfl rfl ?_
                    refine g_iconst rfl ?_
                    refine g_icmp_ne (by omega) (by omega) (by decide) (by decide) rfl ?_ ?_
                    · intro kk56
                      refine g_iload_n (n := 2) rfl rfl ?_
                      refine g_bipush (by decide) rfl ?_
                      refine g_icmp_ne (by omega) (by omega) (by decide) (by decide) rfl ?_ ?_
                      · intro kk57
                        refine g_iload_n (n := 2) rfl rfl ?_
                        refine g_bipush (by decide) rfl ?_
                        refine g_icmp_ne (by omega) (by omega) (by decide) (by decide) rfl ?_ ?_
                        · intro kk58
                          refine g_iconst rfl ?_
                          exact J140_2 0 (by omega) (by unfold amk; omega)
                        · intro kk59
                          exfalso; omega
                      · intro kk60
                        exfalso; omega
                    · intro kk61
                      exfalso; omega
              · intro kk62
                refine g_iload_n (n := 3) rfl rfl ?_
                refine g_iconst rfl ?_
                refine g_icmp_eq (by omega) (by omega) (by decide) (by decide) rfl ?_ ?_
                · intro kk63
                  refine g_iconst rfl ?_
                  refine g_goto rfl ?_
                  exact J140_2 1 (by omega) (by unfold amk; omega)
                · intro kk64
                  refine g_iload_n (n := 3) rfl rfl ?_
                  refine g_iconst rfl ?_
                  refine g_icmp_eq (by omega) (by omega) (by decide) (by decide) rfl ?_ ?_
                  · intro kk65
                    refine g_iconst rfl ?_
                    refine g_goto rfl ?_
                    exact J140_2 1 (by omega) (by unfold amk; omega)
                  · intro kk66
                    refine g_iload_n (n := 2) rfl rfl ?_
                    refine g_iconst rfl ?_
                    refine g_icmp_ne (by omega) (by omega) (by decide) (by decide) rfl ?_ ?_
                    · intro kk67
                      refine g_iload_n (n := 2) rfl rfl ?_
                      refine g_iconst rfl ?_
                      refine g_icmp_ne (by omega) (by omega) (by decide) (by decide) rfl ?_ ?_
                      · intro kk68
                        refine g_iload_n (n := 2) rfl rfl ?_
                        refine g_bipush (by decide) rfl ?_
                        refine g_icmp_ne (by omega) (by omega) (by decide) (by decide) rfl ?_ ?_
                        · intro kk69
                          refine g_iload_n (n := 2) rfl rfl ?_
                          refine g_bipush (by decide) rfl ?_
                          refine g_icmp_ne (by omega) (by omega) (by decide) (by decide) rfl ?_ ?_
                          · intro kk70
                            refine g_iconst rfl ?_
                            exact J140_2 0 (by omega) (by unfold amk; omega)
                          · intro kk71
                            exfalso; omega
                        · intro kk72
                          exfalso; omega
                      · intro kk73
                        exfalso; omega
                    · intro kk74
                      exfalso; omega
            · intro kk75
              refine g_iload (n := 4) rfl rfl ?_
              refine g_if_ne (by omega) (by omega) rfl ?_ ?_
              · intro kk76
                refine g_iconst rfl ?_
                refine g_goto rfl ?_
                exact J140_2 1 (by omega) (by unfold amk; omega)
              · intro kk77
                refine g_iload_n (n := 2) rfl rfl ?_
                refine g_iconst rfl ?_
                refine g_icmp_ne (by omega) (by omega) (by decide) (by decide) rfl ?_ ?_
                · intro kk78
                  refine g_iload_n (n := 2) rfl rfl ?_
                  refine g_iconst rfl ?_
                  refine g_icmp_ne (by omega) (by omega) (by decide) (by decide) rfl ?_ ?_
                  · intro kk79
                    refine g_iload_n (n := 2) rfl rfl ?_
                    refine g_iconst rfl ?_
                    refine g_icmp_ne (by omega) (by omega) (by decide) (by decide) rfl ?_ ?_
                    · intro kk80
                      refine g_iload_n (n := 2) rfl rfl ?_
                      refine g_bipush (by decide) rfl ?_
                      refine g_icmp_ne (by omega) (by omega) (by decide) (by decide) rfl ?_ ?_
                      · intro kk81
                        refine g_iload_n (n := 2) rfl rfl ?_
                        refine g_bipush (by decide) rfl ?_
                        refine g_icmp_ne (by omega) (by omega) (by decide) (by decide) rfl ?_ ?_
                        · intro kk82
                          refine g_iconst rfl ?_
                          exact J140_2 0 (by omega) (by unfold amk; omega)
                        · intro kk83
                          exfalso; omega
                      · intro kk84
                        exfalso; omega
                    · intro kk85
                      exfalso; omega
                  · intro kk86
                    exfalso; omega
                · intro kk87
                  exfalso; omega
          · intro kk88
            refine g_iload_n (n := 3) rfl rfl ?_
            refine g_iconst rfl ?_
            refine g_icmp_ne (by omega) (by omega) (by decide) (by decide) rfl ?_ ?_
            · intro kk89
              refine g_iconst rfl ?_
              refine g_goto rfl ?_
              exact J140_2 1 (by omega) (by unfold amk; omega)
            · intro kk90
              refine g_iload_n (n := 2) rfl rfl ?_
              refine g_iconst rfl ?_
              refine g_icmp_ne (by omega) (by omega) (by decide) (by decide) rfl ?_ ?_
              · intro kk91
                refine g_iload_n (n := 2) rfl rfl ?_
                refine g_iconst rfl ?_
                refine g_icmp_ne (by omega) (by omega) (by decide) (by decide) rfl ?_ ?_
                · intro kk92
                  refine g_iload_n (n := 2) rfl rfl ?_
                  refine g_iconst rfl ?_
                  refine g_icmp_ne (by omega) (by omega) (by decide) (by decide) rfl ?_ ?_
                  · intro kk93
                    refine g_iload_n (n := 2) rfl rfl ?_
                    refine g_iconst rfl ?_
                    refine g_icmp_ne (by omega) (by omega) (by decide) (by decide) rfl ?_ ?_
                    · intro kk94
                      refine g_iload_n (n := 2) rfl rfl ?_
                      refine g_bipush (by decide) rfl ?_
                      refine g_icmp_ne (by omega) (by omega) (by decide) (by decide) rfl ?_ ?_
                      · intro kk95
                        refine g_iload_n (n := 2) rfl rfl ?_
                        refine g_bipush (by decide) rfl ?_
                        refine g_icmp_ne (by omega) (by omega) (by decide) (by decide) rfl ?_ ?_
                        · intro kk96
                          refine g_iconst rfl ?_
                          exact J140_2 0 (by omega) (by unfold amk; omega)
                        · intro kk97
                          exfalso; omega
                      · intro kk98
                        exfalso; omega
                    · intro kk99
                      exfalso; omega
                  · intro kk100
                    exfalso; omega
                · intro kk101
                  exfalso; omega
              · intro kk102
                exfalso; omega
      refine g_iload_n (n := 3) rfl rfl ?_
      refine g_iconst rfl ?_
      refine g_icmp_eq (by omega) (by omega) (by decide) (by decide) rfl ?_ ?_
      · intro kk103
        refine g_iconst rfl ?_
        exact J52_1 0 (by omega) (by omega)
      · intro kk104
        refine g_iload_n (n := 3) rfl rfl ?_
        refine g_iconst rfl ?_
        refine g_icmp_eq (by omega) (by omega) (by decide) (by decide) rfl ?_ ?_
        · intro kk105
          refine g_iconst rfl ?_
          exact J52_1 0 (by omega) (by omega)
        · intro kk106
          refine g_iconst rfl ?_
          refine g_goto rfl ?_
          exact J52_1 1 (by omega) (by omega)
    · intro kk107
      refine g_bipush (by decide) rfl ?_
      refine g_iret rfl rfl ?_
      exact ⟨_, _, rfl, rfl, by omega, by omega, Or.inr (Or.inl ⟨by omega, by omega, by omega, rfl⟩)⟩
  · intro kk108
    refine g_bipush (by decide) rfl ?_
    refine g_iret rfl rfl ?_
    exact ⟨_, _, rfl, rfl, by omega, by omega, Or.inl ⟨by omega, rfl⟩⟩
theorem d_count {V : cg_V} {d q : Nat} (hd : 0 ≤ d) (hq : 0 ≤ q) {m : kM} (hm : kI m) {w : Int} (h_w : (-2147483648) ≤ w ∧ w ≤ 2147483647) : cg_S V d q mX10_count [vR 61, vI w] (kl m) (R_I (fun z m' => (m = m') ∧ (-2147483648 ≤ z) ∧ (z < 2147483648))) := by
  refine cg_of (List.mem_of_getElem? (show ae_MT[188]? = some mX10_count from rfl)) (Nat.le_of_ble_eq_true rfl) ?_
  show cg_G V mX10_count d q _ 0 [(0, vR 61), (1, vI w)] [] (kl m) 0 0
  refine g_iload_n (n := 1) rfl rfl ?_
  have kk1 : w < 0 ∨ 8 < w ∨ w = 0 ∨ w = 1 ∨ w = 2 ∨ w = 3 ∨ w = 4 ∨ w = 5 ∨ w = 6 ∨ w = 7 ∨ w = 8 := by omega
  have J2 : (w < 0 ∨ 8 < w) → cg_G V mX10_count d q (R_I (fun z m' => (m = m') ∧ (-2147483648 ≤ z) ∧ (z < 2147483648))) 107 [(0, vR 61), (1, vI w)] [] (kl m) 0 0 := by
    intro kk3
    refine g_bipush (by decide) rfl ?_
    refine g_iret rfl rfl ?_
    exact ⟨_, _, rfl, rfl, (by omega), (by omega)⟩
  rcases kk1 with kk1 | kk1 | kk1 | kk1 | kk1 | kk1 | kk1 | kk1 | kk1 | kk1 | kk1
  · refine g_tsw_out (tg := 107) (by omega) (by omega) rfl (by omega) (by decide) ?_
    exact J2 (by omega)
  · refine g_tsw_out (tg := 107) (by omega) (by omega) rfl (by omega) (by decide) ?_
    exact J2 (by omega)
  · refine g_tsw_in (tg := 52) (o9 := 51) (by omega) (by omega) rfl (by omega) (by omega) (by rw [kk1]; rfl) (by decide) ?_
    refine g_aload_n (n := 0) rfl rfl ?_
    have h4 : 2 ≤ m.1 25 ∧ m.1 25 ≤ 6 := hm.1 25
    refine g_getf (v := vI (m.1 25)) rfl (kl_61 _) rfl ?_
    refine g_iret rfl rfl ?_
    exact ⟨_, _, rfl, rfl, (by omega), (by omega)⟩
  · refine g_tsw_in (tg := 57) (o9 := 56) (by omega) (by omega) rfl (by omega) (by omega) (by rw [kk1]; rfl) (by decide) ?_
    refine g_aload_n (n := 0) rfl rfl ?_
    have h5 : 0 ≤ m.1 26 ∧ m.1 26 ≤ 10 := hm.1 26
    refine g_getf (v := vI (m.1 26)) rfl (kl_61 _) rfl ?_
    refine g_iret rfl rfl ?_
    exact ⟨_, _, rfl, rfl, (by omega), (by omega)⟩
  · refine g_tsw_in (tg := 62) (o9 := 61) (by omega) (by omega) rfl (by omega) (by omega) (by rw [kk1]; rfl) (by decide) ?_
    refine g_aload_n (n := 0) rfl rfl ?_
    refine g_getf (v := vR 62) rfl (kl_61 _) rfl ?_
    refine g_iconst rfl ?_
    have h6 : (-2147483648) ≤ m.2.1 62 5 ∧ m.2.1 62 5 ≤ 2147483647 := hm.2 62 5 (by omega) (show 5 < (48 : Int) by omega)
    refine g_iald (f := m.2.1 62) rfl (kl_62 _) (by decide) (by omega) (by omega) ?_
    refine g_iret rfl rfl ?_
    exact ⟨_, _, rfl, rfl, (by omega), (by omega)⟩
  · refine g_tsw_in (tg := 69) (o9 := 68) (by omega) (by omega) rfl (by omega) (by omega) (by rw [kk1]; rfl) (by decide) ?_
    refine g_aload_n (n := 0) rfl rfl ?_
    refine g_getf (v := vR 62) rfl (kl_61 _) rfl ?_
    refine g_bipush (by decide) rfl ?_
    have h7 : (-2147483648) ≤ m.2.1 62 6 ∧ m.2.1 62 6 ≤ 2147483647 := hm.2 62 6 (by omega) (show 6 < (48 : Int) by omega)
    refine g_iald (f := m.2.1 62) rfl (kl_62 _) (by decide) (by omega) (by omega) ?_
    refine g_iret rfl rfl ?_
    exact ⟨_, _, rfl, rfl, (by omega), (by omega)⟩
  · refine g_tsw_in (tg := 77) (o9 := 76) (by omega) (by omega) rfl (by omega) (by omega) (by rw [kk1]; rfl) (by decide) ?_
    refine g_aload_n (n := 0) rfl rfl ?_
    refine g_getf (v := vR 62) rfl (kl_61 _) rfl ?_
    refine g_iconst rfl ?_
    have h8 : (-2147483648) ≤ m.2.1 62 4 ∧ m.2.1 62 4 ≤ 2147483647 := hm.2 62 4 (by omega) (show 4 < (48 : Int) by omega)
    refine g_iald (f := m.2.1 62) rfl (kl_62 _) (by decide) (by omega) (by omega) ?_
    refine g_iret rfl rfl ?_
    exact ⟨_, _, rfl, rfl, (by omega), (by omega)⟩
  · refine g_tsw_in (tg := 84) (o9 := 83) (by omega) (by omega) rfl (by omega) (by omega) (by rw [kk1]; rfl) (by decide) ?_
    refine g_aload_n (n := 0) rfl rfl ?_
    refine g_getf (v := vR 62) rfl (kl_61 _) rfl ?_
    refine g_bipush (by decide) rfl ?_
    have h9 : (-2147483648) ≤ m.2.1 62 7 ∧ m.2.1 62 7 ≤ 2147483647 := hm.2 62 7 (by omega) (show 7 < (48 : Int) by omega)
    refine g_iald (f := m.2.1 62) rfl (kl_62 _) (by decide) (by omega) (by omega) ?_
    refine g_iret rfl rfl ?_
    exact ⟨_, _, rfl, rfl, (by omega), (by omega)⟩
  · refine g_tsw_in (tg := 92) (o9 := 91) (by omega) (by omega) rfl (by omega) (by omega) (by rw [kk1]; rfl) (by decide) ?_
    refine g_aload_n (n := 0) rfl rfl ?_
    have h10 : 0 ≤ m.1 38 ∧ m.1 38 ≤ 20 := hm.1 38
    refine g_getf (v := vI (m.1 38)) rfl (kl_61 _) rfl ?_
    refine g_iret rfl rfl ?_
    exact ⟨_, _, rfl, rfl, (by omega), (by omega)⟩
  · refine g_tsw_in (tg := 97) (o9 := 96) (by omega) (by omega) rfl (by omega) (by omega) (by rw [kk1]; rfl) (by decide) ?_
    refine g_aload_n (n := 0) rfl rfl ?_
    have h11 : 0 ≤ m.1 39 ∧ m.1 39 ≤ 8 := hm.1 39
    refine g_getf (v := vI (m.1 39)) rfl (kl_61 _) rfl ?_
    refine g_iret rfl rfl ?_
    exact ⟨_, _, rfl, rfl, (by omega), (by omega)⟩
  · refine g_tsw_in (tg := 102) (o9 := 101) (by omega) (by omega) rfl (by omega) (by omega) (by rw [kk1]; rfl) (by decide) ?_
    refine g_aload_n (n := 0) rfl rfl ?_
    have h12 : 0 ≤ m.1 23 ∧ m.1 23 ≤ 200 := hm.1 23
    refine g_getf (v := vI (m.1 23)) rfl (kl_61 _) rfl ?_
    refine g_iret rfl rfl ?_
    exact ⟨_, _, rfl, rfl, (by omega), (by omega)⟩
theorem d_power {V : cg_V} {d q : Nat} (hd : 0 ≤ d) (hq : 0 ≤ q) {m : kM} (hm : kI m) {a n : Int} (h_a : (-9223372036854775808) ≤ a ∧ a ≤ 9223372036854775807) (h_n : 0 ≤ n ∧ n ≤ 16) : cg_S V d q mX10_power [vL a, vI n] (kl m) (R_J (fun z m' => (m = m') ∧ (-9223372036854775808 ≤ z) ∧ (z < 9223372036854775808))) := by
  refine cg_of (List.mem_of_getElem? (show ae_MT[172]? = some mX10_power from rfl)) (Nat.le_of_ble_eq_true rfl) ?_
  show cg_G V mX10_power d q _ 0 [(0, vL a), (2, vI n)] [] (kl m) 0 0
  refine g_lconst (x := 1) (by decide) rfl ?_
  refine g_lstore_n (n := 3) (lo' := [(0, vL a), (2, vI n)]) rfl rfl ?_
  refine g_iconst rfl ?_
  refine g_istore (n := 5) (lo' := [(3, vL 1), (0, vL a), (2, vI n)]) rfl rfl ?_
  have L5_1 : ∀ (n5_1 : Nat) (s_1 : Int) (i_1 : Int), ((-9223372036854775808) ≤ s_1 ∧ s_1 ≤ 9223372036854775807) → (0 ≤ i_1 ∧ i_1 ≤ 16) → ((16 - i_1).toNat) = n5_1 → cg_G V mX10_power d q (R_J (fun z m' => (m = m') ∧ (-9223372036854775808 ≤ z) ∧ (z < 9223372036854775808))) 5 [(5, vI i_1), (3, vL s_1), (0, vL a), (2, vI n)] [] (kl m) 0 0 := by
    intro n5_1
    induction n5_1 using Nat.strongRecOn with
    | _ n5_1 ih5_1 =>
      intro s_1 i_1 i1 i2 q3
      refine g_iload (n := 5) rfl rfl ?_
      refine g_iload_n (n := 2) rfl rfl ?_
      refine g_icmp_ge (by omega) (by omega) (by omega) (by omega) rfl ?_ ?_
      · intro kk4
        refine g_lload_n (n := 3) rfl rfl ?_
        refine g_lret rfl rfl ?_
        exact ⟨_, _, rfl, rfl, (by omega), (by omega)⟩
      · intro kk5
        refine g_lload_n (n := 3) rfl rfl ?_
        refine g_lload_n (n := 0) rfl rfl ?_
        refine g_lmul rfl ?_
        refine g_nrmL ?_
        intro z6 h7 h8 h9 h10
        refine g_lstore_n (n := 3) (lo' := [(5, vI i_1), (0, vL a), (2, vI n)]) rfl rfl ?_
        refine g_iinc (n := 5) (lo' := [(3, vL z6), (0, vL a), (2, vI n)]) rfl rfl rfl ?_
        refine g_goto rfl ?_
        exact ih5_1 _ (by omega) z6 (i_1 + 1) (by omega) (by omega) rfl
  exact L5_1 _ 1 0 (by omega) (by omega) rfl
theorem d_power10 {V : cg_V} {d q : Nat} (hd : 0 ≤ d) (hq : 0 ≤ q) {m : kM} (hm : kI m) {a n : Int} (h_a : 10 ≤ a ∧ a ≤ 10) (h_n : 0 ≤ n ∧ n ≤ 16) : cg_S V d q mX10_power [vL a, vI n] (kl m) (R_J (fun z m' => (m = m') ∧ (1 ≤ z) ∧ (z ≤ 10000000000000000))) := by
  refine cg_of (List.mem_of_getElem? (show ae_MT[172]? = some mX10_power from rfl)) (Nat.le_of_ble_eq_true rfl) ?_
  show cg_G V mX10_power d q _ 0 [(0, vL a), (2, vI n)] [] (kl m) 0 0
  have h1 : a = 10 := by omega
  rcases h1 with rfl
  · refine g_lconst (x := 1) (by decide) rfl ?_
    refine g_lstore_n (n := 3) (lo' := [(0, vL 10), (2, vI n)]) rfl rfl ?_
    refine g_iconst rfl ?_
    refine g_istore (n := 5) (lo' := [(3, vL 1), (0, vL 10), (2, vI n)]) rfl rfl ?_
    refine g_iload (n := 5) rfl rfl ?_
    refine g_iload_n (n := 2) rfl rfl ?_
    refine g_icmp_ge (by decide) (by decide) (by omega) (by omega) rfl ?_ ?_
    · intro kk2
      refine g_lload_n (n := 3) rfl rfl ?_
      refine g_lret rfl rfl ?_
      exact ⟨_, _, rfl, rfl, (by omega), (by omega)⟩
    · intro kk3
      refine g_lload_n (n := 3) rfl rfl ?_
      refine g_lload_n (n := 0) rfl rfl ?_
      refine g_lmul rfl ?_
      refine g_lstore_n (n := 3) (lo' := [(5, vI 0), (0, vL 10), (2, vI n)]) rfl rfl ?_
      refine g_iinc (n := 5) (lo' := [(3, vL (1 * 10)), (0, vL 10), (2, vI n)]) rfl rfl rfl ?_
      refine g_goto rfl ?_
      refine g_iload (n := 5) rfl rfl ?_
      refine g_iload_n (n := 2) rfl rfl ?_
      refine g_icmp_ge (by omega) (by omega) (by omega) (by omega) rfl ?_ ?_
      · intro kk4
        refine g_lload_n (n := 3) rfl rfl ?_
        refine g_lret rfl rfl ?_
        exact ⟨_, _, rfl, rfl, (by omega), (by omega)⟩
      · intro kk5
        refine g_lload_n (n := 3) rfl rfl ?_
        refine g_lload_n (n := 0) rfl rfl ?_
        refine g_lmul rfl ?_
        refine g_lstore_n (n := 3) (lo' := [(5, vI (0 + 1)), (0, vL 10), (2, vI n)]) rfl rfl ?_
        refine g_iinc (n := 5) (lo' := [(3, vL ((1 * 10) * 10)), (0, vL 10), (2, vI n)]) rfl rfl rfl ?_
        refine g_goto rfl ?_
        refine g_iload (n := 5) rfl rfl ?_
        refine g_iload_n (n := 2) rfl rfl ?_
        refine g_icmp_ge (by omega) (by omega) (by omega) (by omega) rfl ?_ ?_
        · intro kk6
          refine g_lload_n (n := 3) rfl rfl ?_
          refine g_lret rfl rfl ?_
          exact ⟨_, _, rfl, rfl, (by omega), (by omega)⟩
        · intro kk7
          refine g_lload_n (n := 3) rfl rfl ?_
          refine g_lload_n (n := 0) rfl rfl ?_
          refine g_lmul rfl ?_
          refine g_lstore_n (n := 3) (lo' := [(5, vI ((0 + 1) + 1)), (0, vL 10), (2, vI n)]) rfl rfl ?_
          refine g_iinc (n := 5) (lo' := [(3, vL (((1 * 10) * 10) * 10)), (0, vL 10), (2, vI n)]) rfl rfl rfl ?_
          refine g_goto rfl ?_
          refine g_iload (n := 5) rfl rfl ?_
          refine g_iload_n (n := 2) rfl rfl ?_
          refine g_icmp_ge (by omega) (by omega) (by omega) (by omega) rfl ?_ ?_
          · intro kk8
            refine g_lload_n (n := 3) rfl rfl ?_
            refine g_lret rfl rfl ?_
            exact ⟨_, _, rfl, rfl, (by omega), (by omega)⟩
          · intro kk9
            refine g_lload_n (n := 3) rfl rfl ?_
            refine g_lload_n (n := 0) rfl rfl ?_
            refine g_lmul rfl ?_
            refine g_lstore_n (n := 3) (lo' := [(5, vI (((0 + 1) + 1) + 1)), (0, vL 10), (2, vI n)]) rfl rfl ?_
            refine g_iinc (n := 5) (lo' := [(3, vL ((((1 * 10) * 10) * 10) * 10)), (0, vL 10), (2, vI n)]) rfl rfl rfl ?_
            refine g_goto rfl ?_
            refine g_iload (n := 5) rfl rfl ?_
            refine g_iload_n (n := 2) rfl rfl ?_
            refine g_icmp_ge (by omega) (by omega) (by omega) (by omega) rfl ?_ ?_
            · intro kk10
              refine g_lload_n (n := 3) rfl rfl ?_
              refine g_lret rfl rfl ?_
              exact ⟨_, _, rfl, rfl, (by omega), (by omega)⟩
            · intro kk11
              refine g_lload_n (n := 3) rfl rfl ?_
              refine g_lload_n (n := 0) rfl rfl ?_
              refine g_lmul rfl ?_
              refine g_lstore_n (n := 3) (lo' := [(5, vI ((((0 + 1) + 1) + 1) + 1)), (0, vL 10), (2, vI n)]) rfl rfl ?_
              refine g_iinc (n := 5) (lo' := [(3, vL (((((1 * 10) * 10) * 10) * 10) * 10)), (0, vL 10), (2, vI n)]) rfl rfl rfl ?_
              refine g_goto rfl ?_
              refine g_iload (n := 5) rfl rfl ?_
              refine g_iload_n (n := 2) rfl rfl ?_
              refine g_icmp_ge (by omega) (by omega) (by omega) (by omega) rfl ?_ ?_
              · intro kk12
                refine g_lload_n (n := 3) rfl rfl ?_
                refine g_lret rfl rfl ?_
                exact ⟨_, _, rfl, rfl, (by omega), (by omega)⟩
              · intro kk13
                refine g_lload_n (n := 3) rfl rfl ?_
                refine g_lload_n (n := 0) rfl rfl ?_
                refine g_lmul rfl ?_
                refine g_lstore_n (n := 3) (lo' := [(5, vI (((((0 + 1) + 1) + 1) + 1) + 1)), (0, vL 10), (2, vI n)]) rfl rfl ?_
                refine g_iinc (n := 5) (lo' := [(3, vL ((((((1 * 10) * 10) * 10) * 10) * 10) * 10)), (0, vL 10), (2, vI n)]) rfl rfl rfl ?_
                refine g_goto rfl ?_
                refine g_iload (n := 5) rfl rfl ?_
                refine g_iload_n (n := 2) rfl rfl ?_
                refine g_icmp_ge (by omega) (by omega) (by omega) (by omega) rfl ?_ ?_
                · intro kk14
                  refine g_lload_n (n := 3) rfl rfl ?_
                  refine g_lret rfl rfl ?_
                  exact ⟨_, _, rfl, rfl, (by omega), (by omega)⟩
                · intro kk15
                  refine g_lload_n (n := 3) rfl rfl ?_
                  refine g_lload_n (n := 0) rfl rfl ?_
                  refine g_lmul rfl ?_
                  refine g_lstore_n (n := 3) (lo' := [(5, vI ((((((0 + 1) + 1) + 1) + 1) + 1) + 1)), (0, vL 10), (2, vI n)]) rfl rfl ?_
                  refine g_iinc (n := 5) (lo' := [(3, vL (((((((1 * 10) * 10) * 10) * 10) * 10) * 10) * 10)), (0, vL 10), (2, vI n)]) rfl rfl rfl ?_
                  refine g_goto rfl ?_
                  refine g_iload (n := 5) rfl rfl ?_
                  refine g_iload_n (n := 2) rfl rfl ?_
                  refine g_icmp_ge (by omega) (by omega) (by omega) (by omega) rfl ?_ ?_
                  · intro kk16
                    refine g_lload_n (n := 3) rfl rfl ?_
                    refine g_lret rfl rfl ?_
                    exact ⟨_, _, rfl, rfl, (by omega), (by omega)⟩
                  · intro kk17
                    refine g_lload_n (n := 3) rfl rfl ?_
                    refine g_lload_n (n := 0) rfl rfl ?_
                    refine g_lmul rfl ?_
                    refine g_lstore_n (n := 3) (lo' := [(5, vI (((((((0 + 1) + 1) + 1) + 1) + 1) + 1) + 1)), (0, vL 10), (2, vI n)]) rfl rfl ?_
                    refine g_iinc (n := 5) (lo' := [(3, vL ((((((((1 * 10) * 10) * 10) * 10) * 10) * 10) * 10) * 10)), (0, vL 10), (2, vI n)]) rfl rfl rfl ?_
                    refine g_goto rfl ?_
                    refine g_iload (n := 5) rfl rfl ?_
                    refine g_iload_n (n := 2) rfl rfl ?_
                    refine g_icmp_ge (by omega) (by omega) (by omega) (by omega) rfl ?_ ?_
                    · intro kk18
                      refine g_lload_n (n := 3) rfl rfl ?_
                      refine g_lret rfl rfl ?_
                      exact ⟨_, _, rfl, rfl, (by omega), (by omega)⟩
                    · intro kk19
                      refine g_lload_n (n := 3) rfl rfl ?_
                      refine g_lload_n (n := 0) rfl rfl ?_
                      refine g_lmul rfl ?_
                      refine g_lstore_n (n := 3) (lo' := [(5, vI ((((((((0 + 1) + 1) + 1) + 1) + 1) + 1) + 1) + 1)), (0, vL 10), (2, vI n)]) rfl rfl ?_
                      refine g_iinc (n := 5) (lo' := [(3, vL (((((((((1 * 10) * 10) * 10) * 10) * 10) * 10) * 10) * 10) * 10)), (0, vL 10), (2, vI n)]) rfl rfl rfl ?_
                      refine g_goto rfl ?_
                      refine g_iload (n := 5) rfl rfl ?_
                      refine g_iload_n (n := 2) rfl rfl ?_
                      refine g_icmp_ge (by omega) (by omega) (by omega) (by omega) rfl ?_ ?_
                      · intro kk20
                        refine g_lload_n (n := 3) rfl rfl ?_
                        refine g_lret rfl rfl ?_
                        exact ⟨_, _, rfl, rfl, (by omega), (by omega)⟩
                      · intro kk21
                        refine g_lload_n (n := 3) rfl rfl ?_
                        refine g_lload_n (n := 0) rfl rfl ?_
                        refine g_lmul rfl ?_
                        refine g_lstore_n (n := 3) (lo' := [(5, vI (((((((((0 + 1) + 1) + 1) + 1) + 1) + 1) + 1) + 1) + 1)), (0, vL 10), (2, vI n)]) rfl rfl ?_
                        refine g_iinc (n := 5) (lo' := [(3, vL ((((((((((1 * 10) * 10) * 10) * 10) * 10) * 10) * 10) * 10) * 10) * 10)), (0, vL 10), (2, vI n)]) rfl rfl rfl ?_
                        refine g_goto rfl ?_
                        refine g_iload (n := 5) rfl rfl ?_
                        refine g_iload_n (n := 2) rfl rfl ?_
                        refine g_icmp_ge (by omega) (by omega) (by omega) (by omega) rfl ?_ ?_
                        · intro kk22
                          refine g_lload_n (n := 3) rfl rfl ?_
                          refine g_lret rfl rfl ?_
                          exact ⟨_, _, rfl, rfl, (by omega), (by omega)⟩
                        · intro kk23
                          refine g_lload_n (n := 3) rfl rfl ?_
                          refine g_lload_n (n := 0) rfl rfl ?_
                          refine g_lmul rfl ?_
                          refine g_lstore_n (n := 3) (lo' := [(5, vI ((((((((((0 + 1) + 1) + 1) + 1) + 1) + 1) + 1) + 1) + 1) + 1)), (0, vL 10), (2, vI n)]) rfl rfl ?_
                          refine g_iinc (n := 5) (lo' := [(3, vL (((((((((((1 * 10) * 10) * 10) * 10) * 10) * 10) * 10) * 10) * 10) * 10) * 10)), (0, vL 10), (2, vI n)]) rfl rfl rfl ?_
                          refine g_goto rfl ?_
                          refine g_iload (n := 5) rfl rfl ?_
                          refine g_iload_n (n := 2) rfl rfl ?_
                          refine g_icmp_ge (by omega) (by omega) (by omega) (by omega) rfl ?_ ?_
                          · intro kk24
                            refine g_lload_n (n := 3) rfl rfl ?_
                            refine g_lret rfl rfl ?_
                            exact ⟨_, _, rfl, rfl, (by omega), (by omega)⟩
                          · intro kk25
                            refine g_lload_n (n := 3) rfl rfl ?_
                            refine g_lload_n (n := 0) rfl rfl ?_
                            refine g_lmul rfl ?_
                            refine g_lstore_n (n := 3) (lo' := [(5, vI (((((((((((0 + 1) + 1) + 1) + 1) + 1) + 1) + 1) + 1) + 1) + 1) + 1)), (0, vL 10), (2, vI n)]) rfl rfl ?_
                            refine g_iinc (n := 5) (lo' := [(3, vL ((((((((((((1 * 10) * 10) * 10) * 10) * 10) * 10) * 10) * 10) * 10) * 10) * 10) * 10)), (0, vL 10), (2, vI n)]) rfl rfl rfl ?_
                            refine g_goto rfl ?_
                            refine g_iload (n := 5) rfl rfl ?_
                            refine g_iload_n (n := 2) rfl rfl ?_
                            refine g_icmp_ge (by omega) (by omega) (by omega) (by omega) rfl ?_ ?_
                            · intro kk26
                              refine g_lload_n (n := 3) rfl rfl ?_
                              refine g_lret rfl rfl ?_
                              exact ⟨_, _, rfl, rfl, (by omega), (by omega)⟩
                            · intro kk27
                              refine g_lload_n (n := 3) rfl rfl ?_
                              refine g_lload_n (n := 0) rfl rfl ?_
                              refine g_lmul rfl ?_
                              refine g_lstore_n (n := 3) (lo' := [(5, vI ((((((((((((0 + 1) + 1) + 1) + 1) + 1) + 1) + 1) + 1) + 1) + 1) + 1) + 1)), (0, vL 10), (2, vI n)]) rfl rfl ?_
                              refine g_iinc (n := 5) (lo' := [(3, vL (((((((((((((1 * 10) * 10) * 10) * 10) * 10) * 10) * 10) * 10) * 10) * 10) * 10) * 10) * 10)), (0, vL 10), (2, vI n)]) rfl rfl rfl ?_
                              refine g_goto rfl ?_
                              refine g_iload (n := 5) rfl rfl ?_
                              refine g_iload_n (n := 2) rfl rfl ?_
                              refine g_icmp_ge (by omega) (by omega) (by omega) (by omega) rfl ?_ ?_
                              · intro kk28
                                refine g_lload_n (n := 3) rfl rfl ?_
                                refine g_lret rfl rfl ?_
                                exact ⟨_, _, rfl, rfl, (by omega), (by omega)⟩
                              · intro kk29
                                refine g_lload_n (n := 3) rfl rfl ?_
                                refine g_lload_n (n := 0) rfl rfl ?_
                                refine g_lmul rfl ?_
                                refine g_lstore_n (n := 3) (lo' := [(5, vI (((((((((((((0 + 1) + 1) + 1) + 1) + 1) + 1) + 1) + 1) + 1) + 1) + 1) + 1) + 1)), (0, vL 10), (2, vI n)]) rfl rfl ?_
                                refine g_iinc (n := 5) (lo' := [(3, vL ((((((((((((((1 * 10) * 10) * 10) * 10) * 10) * 10) * 10) * 10) * 10) * 10) * 10) * 10) * 10) * 10)), (0, vL 10), (2, vI n)]) rfl rfl rfl ?_
                                refine g_goto rfl ?_
                                refine g_iload (n := 5) rfl rfl ?_
                                refine g_iload_n (n := 2) rfl rfl ?_
                                refine g_icmp_ge (by omega) (by omega) (by omega) (by omega) rfl ?_ ?_
                                · intro kk30
                                  refine g_lload_n (n := 3) rfl rfl ?_
                                  refine g_lret rfl rfl ?_
                                  exact ⟨_, _, rfl, rfl, (by omega), (by omega)⟩
                                · intro kk31
                                  refine g_lload_n (n := 3) rfl rfl ?_
                                  refine g_lload_n (n := 0) rfl rfl ?_
                                  refine g_lmul rfl ?_
                                  refine g_lstore_n (n := 3) (lo' := [(5, vI ((((((((((((((0 + 1) + 1) + 1) + 1) + 1) + 1) + 1) + 1) + 1) + 1) + 1) + 1) + 1) + 1)), (0, vL 10), (2, vI n)]) rfl rfl ?_
                                  refine g_iinc (n := 5) (lo' := [(3, vL (((((((((((((((1 * 10) * 10) * 10) * 10) * 10) * 10) * 10) * 10) * 10) * 10) * 10) * 10) * 10) * 10) * 10)), (0, vL 10), (2, vI n)]) rfl rfl rfl ?_
                                  refine g_goto rfl ?_
                                  refine g_iload (n := 5) rfl rfl ?_
                                  refine g_iload_n (n := 2) rfl rfl ?_
                                  refine g_icmp_ge (by omega) (by omega) (by omega) (by omega) rfl ?_ ?_
                                  · intro kk32
                                    refine g_lload_n (n := 3) rfl rfl ?_
                                    refine g_lret rfl rfl ?_
                                    exact ⟨_, _, rfl, rfl, (by omega), (by omega)⟩
                                  · intro kk33
                                    refine g_lload_n (n := 3) rfl rfl ?_
                                    refine g_lload_n (n := 0) rfl rfl ?_
                                    refine g_lmul rfl ?_
                                    refine g_lstore_n (n := 3) (lo' := [(5, vI (((((((((((((((0 + 1) + 1) + 1) + 1) + 1) + 1) + 1) + 1) + 1) + 1) + 1) + 1) + 1) + 1) + 1)), (0, vL 10), (2, vI n)]) rfl rfl ?_
                                    refine g_iinc (n := 5) (lo' := [(3, vL ((((((((((((((((1 * 10) * 10) * 10) * 10) * 10) * 10) * 10) * 10) * 10) * 10) * 10) * 10) * 10) * 10) * 10) * 10)), (0, vL 10), (2, vI n)]) rfl rfl rfl ?_
                                    refine g_goto rfl ?_
                                    refine g_iload (n := 5) rfl rfl ?_
                                    refine g_iload_n (n := 2) rfl rfl ?_
                                    refine g_icmp_ge (by omega) (by omega) (by omega) (by omega) rfl ?_ ?_
                                    · intro kk34
                                      refine g_lload_n (n := 3) rfl rfl ?_
                                      refine g_lret rfl rfl ?_
                                      exact ⟨_, _, rfl, rfl, (by omega), (by omega)⟩
                                    · intro kk35
                                      exfalso; omega
theorem d_divisor {V : cg_V} {d q : Nat} (hd : 0 ≤ d) (hq : 0 ≤ q) {m : kM} (hm : kI m) {a b : Int} (h_a : (-9223372036854775808) ≤ a ∧ a ≤ 9223372036854775807) (h_b : (-9223372036854775808) ≤ b ∧ b ≤ 9223372036854775807) (h_n : b ≠ 0) : cg_S V d q mX10_divisor [vL a, vL b] (kl m) (R_J (fun z m' => (m = m') ∧ (-9223372036854775808 ≤ z) ∧ (z < 9223372036854775808) ∧ (z ≠ 0))) := by
  refine cg_of (List.mem_of_getElem? (show ae_MT[171]? = some mX10_divisor from rfl)) (Nat.le_of_ble_eq_true rfl) ?_
  show cg_G V mX10_divisor d q _ 0 [(0, vL a), (2, vL b)] [] (kl m) 0 0
  refine g_lload_n (n := 0) rfl rfl ?_
  refine g_lstore (n := 4) (lo' := [(0, vL a), (2, vL b)]) rfl rfl ?_
  refine g_lload_n (n := 2) rfl rfl ?_
  refine g_lstore (n := 6) (lo' := [(4, vL a), (0, vL a), (2, vL b)]) rfl rfl ?_
  have L6_1 : ∀ (n6_1 : Nat) (x_1 : Int) (y_1 : Int), ((-9223372036854775808) ≤ x_1 ∧ x_1 ≤ 9223372036854775807) → ((-9223372036854775808) ≤ y_1 ∧ y_1 ≤ 9223372036854775807) → (x_1 ≠ 0 ∨ y_1 ≠ 0) → y_1.natAbs = n6_1 → cg_G V mX10_divisor d q (R_J (fun z m' => (m = m') ∧ (-9223372036854775808 ≤ z) ∧ (z < 9223372036854775808) ∧ (z ≠ 0))) 6 [(6, vL y_1), (4, vL x_1), (0, vL a), (2, vL b)] [] (kl m) 0 0 := by
    intro n6_1
    induction n6_1 using Nat.strongRecOn with
    | _ n6_1 ih6_1 =>
      intro x_1 y_1 i1 i2 i3 q4
      refine g_lload (n := 6) rfl rfl ?_
      refine g_lconst (x := 0) (by decide) rfl ?_
      refine g_lcmp (by omega) (by omega) (by decide) (by decide) rfl ?_
      intro z5 h6
      refine g_if_eq (by omega) (by omega) rfl ?_ ?_
      · intro kk7
        refine g_lload (n := 4) rfl rfl ?_
        refine g_lret rfl rfl ?_
        exact ⟨_, _, rfl, rfl, (by omega), (by omega), (by omega)⟩
      · intro kk8
        refine g_lload (n := 4) rfl rfl ?_
        refine g_lload (n := 6) rfl rfl ?_
        refine g_lremA (by omega) (by omega) (by omega) (by omega) (by omega) rfl ?_
        intro z9 h10 h11 h12
        refine g_lstore (n := 8) (lo' := [(6, vL y_1), (4, vL x_1), (0, vL a), (2, vL b)]) rfl rfl ?_
        refine g_lload (n := 6) rfl rfl ?_
        refine g_lstore (n := 4) (lo' := [(8, vL z9), (6, vL y_1), (0, vL a), (2, vL b)]) rfl rfl ?_
        refine g_lload (n := 8) rfl rfl ?_
        refine g_lstore (n := 6) (lo' := [(4, vL y_1), (8, vL z9), (0, vL a), (2, vL b)]) rfl rfl ?_
        refine g_goto rfl ?_
        refine g_pick (lo' := [(6, vL z9), (4, vL y_1), (0, vL a), (2, vL b)]) [0, 1, 3, 4] rfl ?_
        exact ih6_1 _ (by omega) y_1 z9 (by omega) (by omega) (by omega) rfl
  exact L6_1 _ a b (by omega) (by omega) (by omega) rfl
theorem d_erase {V : cg_V} {d q : Nat} (hd : 0 ≤ d) (hq : 0 ≤ q) {m : kM} (hm : kI m) : cg_S V d q mX10_erase [vR 61] (kl m) (R_I (fun z m' => (kI m') ∧ (fr [23] [] m m') ∧ (z = m.1 23) ∧ (m'.1 23 = 0))) := by
  have hf0 : fr [23] [] m m := fr_rf m
  refine cg_of (List.mem_of_getElem? (show ae_MT[123]? = some mX10_erase from rfl)) (Nat.le_of_ble_eq_true rfl) ?_
  show cg_G V mX10_erase d q _ 0 [(0, vR 61)] [] (kl m) 0 0
  have h1 : 0 ≤ m.1 23 ∧ m.1 23 ≤ 200 := hm.1 23
  refine g_aload_n (n := 0) rfl rfl ?_
  refine g_getf (v := vI (m.1 23)) rfl (kl_61 _) rfl ?_
  refine g_istore_n (n := 1) (lo' := [(0, vR 61)]) rfl rfl ?_
  refine g_aload_n (n := 0) rfl rfl ?_
  refine g_iconst rfl ?_
  refine g_putF (m' := (kF m 23 0)) rfl (kl_61 _) rfl rfl rfl rfl (kF_23 _ _) ?_
  have hm2 : kI (kF m 23 0) := kI_F hm 23 (show (0 : Int) ≤ 0 by omega) (show 0 ≤ (200 : Int) by omega)
  have hf3 : fr [23] [] m (kF m 23 0) := fr_F hf0 23 _ rfl
  refine g_iload_n (n := 1) rfl rfl ?_
  refine g_iret rfl rfl ?_
  exact ⟨_, _, rfl, hm2, hf3, (by omega), rfl⟩
theorem d_row {V : cg_V} {d q : Nat} (hd : 2 ≤ d) (hq : 45 ≤ q) {m : kM} (hm : kI m) {c : Int} (h_c : (-2147483648) ≤ c ∧ c ≤ 2147483647) : cg_S V d q mX10_row [vR 61, vI c] (kl m) (R_I (fun z m' => (kI m') ∧ (fr [38] [72] m m') ∧ (((0 ≤ c ∧ c ≤ 99 ∧ m.1 38 < 20) ∧ m'.1 38 = m.1 38 + 1 ∧ z = m.1 38 + 1) ∨ ((c < 0 ∨ 99 < c) ∧ m'.1 38 = m.1 38 ∧ z = -3) ∨ ((0 ≤ c ∧ c ≤ 99 ∧ m.1 38 = 20) ∧ m'.1 38 = m.1 38 ∧ z = -5)))) := by
  have hf0 : fr [38] [72] m m := fr_rf m
  refine cg_of (List.mem_of_getElem? (show ae_MT[175]? = some mX10_row from rfl)) (Nat.le_of_ble_eq_true rfl) ?_
  show cg_G V mX10_row d q _ 0 [(0, vR 61), (1, vI c)] [] (kl m) 0 0
  have h1 : 0 ≤ m.1 38 ∧ m.1 38 ≤ 20 := hm.1 38
  refine g_iload_n (n := 1) rfl rfl ?_
  refine c_sI (ps := [vI c]) (r := []) (as := [vI c]) (cs' := 0) (sl' := 0) rfl rfl rfl rfl rfl rfl (d_isCode (d := d - 1) (q := q - (1 + 19)) (by omega) (by omega) hm (a := c) (show (-2147483648) ≤ c ∧ c ≤ 2147483647 by omega)) (by omega) (show 1 + 19 ≤ q by omega) (Nat.le_of_ble_eq_true rfl) (Nat.le_of_ble_eq_true rfl) rfl rfl rfl ?_
  rintro z2 m3 ⟨rfl, p5⟩
  refine g_if_ne (by omega) (by omega) rfl ?_ ?_
  · intro kk6
    refine g_aload_n (n := 0) rfl rfl ?_
    refine g_getf (v := vI (m.1 38)) rfl (kl_61 _) rfl ?_
    refine g_bipush (by decide) rfl ?_
    refine g_icmp_ne (by omega) (by omega) (by decide) (by decide) rfl ?_ ?_
    · intro kk7
      refine g_aload_n (n := 0) rfl rfl ?_
      refine g_getf (v := vR 72) rfl (kl_61 _) rfl ?_
      refine g_aload_n (n := 0) rfl rfl ?_
      refine g_getf (v := vI (m.1 38)) rfl (kl_61 _) rfl ?_
      refine g_iload_n (n := 1) rfl rfl ?_
      refine g_iAst (f := m.2.1 72) (m' := (kA m 72 (up (m.2.1 72) (m.1 38) c))) rfl (kl_72 _) (by decide) (by omega) (by omega) (kA_72 _ _) ?_
      have hm8 : kI (kA m 72 (up (m.2.1 72) (m.1 38) c)) := kI_U hm 72 rfl (show (0 : Int) ≤ c by omega) (show c ≤ (99 : Int) by omega)
      have hf9 : fr [38] [72] m (kA m 72 (up (m.2.1 72) (m.1 38) c)) := fr_A hf0 72 _ rfl
      refine g_aload_n (n := 0) rfl rfl ?_
      refine g_dup rfl rfl ?_
      refine g_getf (v := vI (m.1 38)) rfl (kl_61 _) rfl ?_
      refine g_iconst rfl ?_
      refine g_iadd rfl ?_
      refine g_putF (m' := (kF (kA m 72 (up (m.2.1 72) (m.1 38) c)) 38 (m.1 38 + 1))) rfl (kl_61 _) rfl rfl rfl rfl (kF_38 _ _) ?_
      have hm10 : kI (kF (kA m 72 (up (m.2.1 72) (m.1 38) c)) 38 (m.1 38 + 1)) := kI_F hm8 38 (show (0 : Int) ≤ (m.1 38 + 1) by omega) (show (m.1 38 + 1) ≤ (20 : Int) by omega)
      have hf11 : fr [38] [72] m (kF (kA m 72 (up (m.2.1 72) (m.1 38) c)) 38 (m.1 38 + 1)) := fr_F hf9 38 _ rfl
      refine g_aload_n (n := 0) rfl rfl ?_
      refine g_getf (v := vI (m.1 38 + 1)) rfl (kl_61 _) rfl ?_
      refine g_iret rfl rfl ?_
      exact ⟨_, _, rfl, hm10, hf11, (by first | (refine Or.inl ⟨by omega, ?_, by omega⟩; show m.1 38 + 1 = m.1 38 + 1; omega) | omega)⟩
    · intro kk12
      refine g_bipush (by decide) rfl ?_
      refine g_iret rfl rfl ?_
      exact ⟨_, _, rfl, hm, hf0, (by first | (refine Or.inl ⟨by omega, ?_, by omega⟩; show m.1 38 + 1 = m.1 38 + 1; omega) | omega)⟩
  · intro kk13
    refine g_bipush (by decide) rfl ?_
    refine g_iret rfl rfl ?_
    exact ⟨_, _, rfl, hm, hf0, (by first | (refine Or.inl ⟨by omega, ?_, by omega⟩; show m.1 38 + 1 = m.1 38 + 1; omega) | omega)⟩
theorem d_burn {V : cg_V} {d q : Nat} (hd : 0 ≤ d) (hq : 0 ≤ q) {m : kM} (hm : kI m) : cg_S V d q mX10_burn [vR 61] (kl m) (R_I (fun z m' => (kI m') ∧ (fr [38] [] m m') ∧ (z = m.1 38) ∧ (m'.1 38 = 0))) := by
  have hf0 : fr [38] [] m m := fr_rf m
  refine cg_of (List.mem_of_getElem? (show ae_MT[176]? = some mX10_burn from rfl)) (Nat.le_of_ble_eq_true rfl) ?_
  show cg_G V mX10_burn d q _ 0 [(0, vR 61)] [] (kl m) 0 0
  have h1 : 0 ≤ m.1 38 ∧ m.1 38 ≤ 20 := hm.1 38
  refine g_aload_n (n := 0) rfl rfl ?_
  refine g_getf (v := vI (m.1 38)) rfl (kl_61 _) rfl ?_
  refine g_istore_n (n := 1) (lo' := [(0, vR 61)]) rfl rfl ?_
  refine g_aload_n (n := 0) rfl rfl ?_
  refine g_iconst rfl ?_
  refine g_putF (m' := (kF m 38 0)) rfl (kl_61 _) rfl rfl rfl rfl (kF_38 _ _) ?_
  have hm2 : kI (kF m 38 0) := kI_F hm 38 (show (0 : Int) ≤ 0 by omega) (show 0 ≤ (20 : Int) by omega)
  have hf3 : fr [38] [] m (kF m 38 0) := fr_F hf0 38 _ rfl
  refine g_iload_n (n := 1) rfl rfl ?_
  refine g_iret rfl rfl ?_
  exact ⟨_, _, rfl, hm2, hf3, (by omega), rfl⟩
theorem d_heard {V : cg_V} {d q : Nat} (hd : 2 ≤ d) (hq : 46 ≤ q) {m : kM} (hm : kI m) {t a : Int} (h_t : (-2147483648) ≤ t ∧ t ≤ 2147483647) (h_a : (-2147483648) ≤ a ∧ a ≤ 2147483647) : cg_S V d q mX10_heard [vR 61, vI t, vI a] (kl m) (R_I (fun z m' => (kI m') ∧ (fr [39] [73] m m') ∧ (((0 ≤ a ∧ a < m.1 26 ∧ 0 ≤ t ∧ t ≤ 9 ∧ m.1 39 < 8) ∧ m'.1 39 = m.1 39 + 1 ∧ z = m.1 39 + 1) ∨ ((a < 0 ∨ m.1 26 ≤ a) ∧ m'.1 39 = m.1 39 ∧ z = -2) ∨ ((0 ≤ a ∧ a < m.1 26 ∧ (t < 0 ∨ 9 < t)) ∧ m'.1 39 = m.1 39 ∧ z = -3) ∨ ((0 ≤ a ∧ a < m.1 26 ∧ 0 ≤ t ∧ t ≤ 9 ∧ m.1 39 = 8) ∧ m'.1 39 = m.1 39 ∧ z = -5)) ∧ (DHZ m m' t a))) := by
  have hf0 : fr [39] [73] m m := fr_rf m
  refine cg_of (List.mem_of_getElem? (show ae_MT[178]? = some mX10_heard from rfl)) (Nat.le_of_ble_eq_true rfl) ?_
  show cg_G V mX10_heard d q _ 0 [(0, vR 61), (1, vI t), (2, vI a)] [] (kl m) 0 0
  have h1 : 0 ≤ m.1 26 ∧ m.1 26 ≤ 10 := hm.1 26
  have h2 : 0 ≤ m.1 39 ∧ m.1 39 ≤ 8 := hm.1 39
  refine g_aload_n (n := 0) rfl rfl ?_
  refine g_iload_n (n := 2) rfl rfl ?_
  refine c_vI (i := 61) (ps := [vI a]) (r := []) (as := [vR 61, vI a]) (cs' := 0) (sl' := 0) rfl rfl rfl rfl rfl rfl (kl_61 _) (d_isDoor (d := d - 1) (q := q - (2 + 19)) (by omega) (by omega) hm (a := a) (show (-2147483648) ≤ a ∧ a ≤ 2147483647 by omega)) (by omega) (show 2 + 19 ≤ q by omega) (Nat.le_of_ble_eq_true rfl) (Nat.le_of_ble_eq_true rfl) rfl rfl rfl ?_
  rintro z3 m4 ⟨rfl, p6⟩
  refine g_if_ne (by omega) (by omega) rfl ?_ ?_
  · intro kk7
    refine g_iload_n (n := 1) rfl rfl ?_
    refine g_i2l (by omega) (by omega) rfl ?_
    refine g_lconst (x := 0) (by decide) rfl ?_
    refine g_ldc2 (x := 9) (by decide) rfl ?_
    refine c_sI (ps := [vL 9, vL 0, vL t]) (r := []) (as := [vL t, vL 0, vL 9]) (cs' := 0) (sl' := 0) rfl rfl rfl rfl rfl rfl (d_in (d := d - 1) (q := q - (6 + 19)) (by omega) (by omega) hm (a := t) (b := 0) (c := 9) (show (-9223372036854775808) ≤ t ∧ t ≤ 9223372036854775807 by omega) (show (-9223372036854775808) ≤ 0 ∧ 0 ≤ 9223372036854775807 by omega) (show (-9223372036854775808) ≤ 9 ∧ 9 ≤ 9223372036854775807 by omega)) (by omega) (show 6 + 19 ≤ q by omega) (Nat.le_of_ble_eq_true rfl) (Nat.le_of_ble_eq_true rfl) rfl rfl rfl ?_
    rintro z8 m9 ⟨rfl, p11⟩
    refine g_if_ne (by omega) (by omega) rfl ?_ ?_
    · intro kk12
      refine g_aload_n (n := 0) rfl rfl ?_
      refine g_getf (v := vI (m.1 39)) rfl (kl_61 _) rfl ?_
      refine g_bipush (by decide) rfl ?_
      refine g_icmp_ne (by omega) (by omega) (by decide) (by decide) rfl ?_ ?_
      · intro kk13
        refine g_aload_n (n := 0) rfl rfl ?_
        refine g_getf (v := vR 73) rfl (kl_61 _) rfl ?_
        refine g_iconst rfl ?_
        refine g_aload_n (n := 0) rfl rfl ?_
        refine g_getf (v := vI (m.1 39)) rfl (kl_61 _) rfl ?_
        refine g_imul rfl ?_
        refine g_iload_n (n := 1) rfl rfl ?_
        refine g_iAst (f := m.2.1 73) (m' := (kA m 73 (up (m.2.1 73) (2 * m.1 39) t))) rfl (kl_73 _) (by decide) (by omega) (by omega) (kA_73 _ _) ?_
        have hm14 : kI (kA m 73 (up (m.2.1 73) (2 * m.1 39) t)) := kI_U hm 73 rfl (show ((-2147483648) : Int) ≤ t by omega) (show t ≤ (2147483647 : Int) by omega)
        have hf15 : fr [39] [73] m (kA m 73 (up (m.2.1 73) (2 * m.1 39) t)) := fr_A hf0 73 _ rfl
        refine g_aload_n (n := 0) rfl rfl ?_
        refine g_getf (v := vR 73) rfl (kl_61 _) rfl ?_
        refine g_iconst rfl ?_
        refine g_aload_n (n := 0) rfl rfl ?_
        refine g_getf (v := vI (m.1 39)) rfl (kl_61 _) rfl ?_
        refine g_imul rfl ?_
        refine g_iconst rfl ?_
        refine g_iadd rfl ?_
        refine g_iload_n (n := 2) rfl rfl ?_
        refine g_iAst (f := up (m.2.1 73) (2 * m.1 39) t) (m' := (kA (kA m 73 (up (m.2.1 73) (2 * m.1 39) t)) 73 (up (up (m.2.1 73) (2 * m.1 39) t) ((2 * m.1 39) + 1) a))) rfl (kl_73 _) (by decide) (by omega) (by omega) (kA_73 _ _) ?_
        have hm16 : kI (kA (kA m 73 (up (m.2.1 73) (2 * m.1 39) t)) 73 (up (up (m.2.1 73) (2 * m.1 39) t) ((2 * m.1 39) + 1) a)) := kI_U hm14 73 rfl (show ((-2147483648) : Int) ≤ a by omega) (show a ≤ (2147483647 : Int) by omega)
        have hf17 : fr [39] [73] m (kA (kA m 73 (up (m.2.1 73) (2 * m.1 39) t)) 73 (up (up (m.2.1 73) (2 * m.1 39) t) ((2 * m.1 39) + 1) a)) := fr_A hf15 73 _ rfl
        refine g_aload_n (n := 0) rfl rfl ?_
        refine g_dup rfl rfl ?_
        refine g_getf (v := vI (m.1 39)) rfl (kl_61 _) rfl ?_
        refine g_iconst rfl ?_
        refine g_iadd rfl ?_
        refine g_putF (m' := (kF (kA (kA m 73 (up (m.2.1 73) (2 * m.1 39) t)) 73 (up (up (m.2.1 73) (2 * m.1 39) t) ((2 * m.1 39) + 1) a)) 39 (m.1 39 + 1))) rfl (kl_61 _) rfl rfl rfl rfl (kF_39 _ _) ?_
        have hm18 : kI (kF (kA (kA m 73 (up (m.2.1 73) (2 * m.1 39) t)) 73 (up (up (m.2.1 73) (2 * m.1 39) t) ((2 * m.1 39) + 1) a)) 39 (m.1 39 + 1)) := kI_F hm16 39 (show (0 : Int) ≤ (m.1 39 + 1) by omega) (show (m.1 39 + 1) ≤ (8 : Int) by omega)
        have hf19 : fr [39] [73] m (kF (kA (kA m 73 (up (m.2.1 73) (2 * m.1 39) t)) 73 (up (up (m.2.1 73) (2 * m.1 39) t) ((2 * m.1 39) + 1) a)) 39 (m.1 39 + 1)) := fr_F hf17 39 _ rfl
        refine g_aload_n (n := 0) rfl rfl ?_
        refine g_getf (v := vI (m.1 39 + 1)) rfl (kl_61 _) rfl ?_
        refine g_iret rfl rfl ?_
        exact ⟨_, _, rfl, hm18, hf19, (by first | (refine Or.inl ⟨by omega, ?_, by omega⟩; show m.1 39 + 1 = m.1 39 + 1; omega) | omega), (by first | exact Or.inl ⟨rfl, rfl⟩ | exact Or.inr ⟨rfl, rfl⟩)⟩
      · intro kk20
        refine g_bipush (by decide) rfl ?_
        refine g_iret rfl rfl ?_
        exact ⟨_, _, rfl, hm, hf0, (by first | (refine Or.inl ⟨by omega, ?_, by omega⟩; show m.1 39 + 1 = m.1 39 + 1; omega) | omega), (by first | exact Or.inl ⟨rfl, rfl⟩ | exact Or.inr ⟨rfl, rfl⟩)⟩
    · intro kk21
      refine g_bipush (by decide) rfl ?_
      refine g_iret rfl rfl ?_
      exact ⟨_, _, rfl, hm, hf0, (by first | (refine Or.inl ⟨by omega, ?_, by omega⟩; show m.1 39 + 1 = m.1 39 + 1; omega) | omega), (by first | exact Or.inl ⟨rfl, rfl⟩ | exact Or.inr ⟨rfl, rfl⟩)⟩
  · intro kk22
    refine g_bipush (by decide) rfl ?_
    refine g_iret rfl rfl ?_
    exact ⟨_, _, rfl, hm, hf0, (by first | (refine Or.inl ⟨by omega, ?_, by omega⟩; show m.1 39 + 1 = m.1 39 + 1; omega) | omega), (by first | exact Or.inl ⟨rfl, rfl⟩ | exact Or.inr ⟨rfl, rfl⟩)⟩
theorem d_forget {V : cg_V} {d q : Nat} (hd : 0 ≤ d) (hq : 0 ≤ q) {m : kM} (hm : kI m) : cg_S V d q mX10_forget [vR 61] (kl m) (R_I (fun z m' => (kI m') ∧ (fr [39] [] m m') ∧ (z = m.1 39) ∧ (m'.1 39 = 0))) := by
  have hf0 : fr [39] [] m m := fr_rf m
  refine cg_of (List.mem_of_getElem? (show ae_MT[179]? = some mX10_forget from rfl)) (Nat.le_of_ble_eq_true rfl) ?_
  show cg_G V mX10_forget d q _ 0 [(0, vR 61)] [] (kl m) 0 0
  have h1 : 0 ≤ m.1 39 ∧ m.1 39 ≤ 8 := hm.1 39
  refine g_aload_n (n := 0) rfl rfl ?_
  refine g_getf (v := vI (m.1 39)) rfl (kl_61 _) rfl ?_
  refine g_istore_n (n := 1) (lo' := [(0, vR 61)]) rfl rfl ?_
  refine g_aload_n (n := 0) rfl rfl ?_
  refine g_iconst rfl ?_
  refine g_putF (m' := (kF m 39 0)) rfl (kl_61 _) rfl rfl rfl rfl (kF_39 _ _) ?_
  have hm2 : kI (kF m 39 0) := kI_F hm 39 (show (0 : Int) ≤ 0 by omega) (show 0 ≤ (8 : Int) by omega)
  have hf3 : fr [39] [] m (kF m 39 0) := fr_F hf0 39 _ rfl
  refine g_iload_n (n := 1) rfl rfl ?_
  refine g_iret rfl rfl ?_
  exact ⟨_, _, rfl, hm2, hf3, (by omega), rfl⟩
theorem d_fits {V : cg_V} {d q : Nat} (hd : 0 ≤ d) (hq : 0 ≤ q) {m : kM} (hm : kI m) {t e : Int} (h_t : (-2147483648) ≤ t ∧ t ≤ 2147483647) (h_e : (-2147483648) ≤ e ∧ e ≤ 2147483647) : cg_S V d q mX10_fits [vR 61, vI t, vI e] (kl m) (R_I (fun z m' => (m = m') ∧ (z = 0 ∨ z = 1) ∧ (z = nfit (fun j => m.2.1 73 (2 * j)) (fun j => m.2.1 73 (2 * j + 1)) t e (Int.toNat (m.1 39))))) := by
  refine cg_of (List.mem_of_getElem? (show ae_MT[180]? = some mX10_fits from rfl)) (Nat.le_of_ble_eq_true rfl) ?_
  show cg_G V mX10_fits d q _ 0 [(0, vR 61), (1, vI t), (2, vI e)] [] (kl m) 0 0
  have h1 : 0 ≤ m.1 39 ∧ m.1 39 ≤ 8 := hm.1 39
  refine g_iconst rfl ?_
  refine g_istore_n (n := 3) (lo' := [(0, vR 61), (1, vI t), (2, vI e)]) rfl rfl ?_
  refine g_iconst rfl ?_
  refine g_istore (n := 4) (lo' := [(3, vI 1), (0, vR 61), (1, vI t), (2, vI e)]) rfl rfl ?_
  have L5_1 : ∀ (n5_1 : Nat) (b_1 : Int) (i_1 : Int), (0 ≤ b_1 ∧ b_1 ≤ 1) → (0 ≤ i_1 ∧ i_1 ≤ 8) → (i_1 ≤ m.1 39) → (b_1 = nfit (fun j => m.2.1 73 (2 * j)) (fun j => m.2.1 73 (2 * j + 1)) t e (Int.toNat i_1)) → ((8 - i_1).toNat) = n5_1 → cg_G V mX10_fits d q (R_I (fun z m' => (m = m') ∧ (z = 0 ∨ z = 1) ∧ (z = nfit (fun j => m.2.1 73 (2 * j)) (fun j => m.2.1 73 (2 * j + 1)) t e (Int.toNat (m.1 39))))) 5 [(4, vI i_1), (3, vI b_1), (0, vR 61), (1, vI t), (2, vI e)] [] (kl m) 0 0 := by
    intro n5_1
    induction n5_1 using Nat.strongRecOn with
    | _ n5_1 ih5_1 =>
      intro b_1 i_1 i2 i3 iI iB q4
      refine g_iload (n := 4) rfl rfl ?_
      refine g_aload_n (n := 0) rfl rfl ?_
      refine g_getf (v := vI (m.1 39)) rfl (kl_61 _) rfl ?_
      refine g_icmp_ge (by omega) (by omega) (by omega) (by omega) rfl ?_ ?_
      · intro kk5
        refine g_iload_n (n := 3) rfl rfl ?_
        refine g_zret rfl rfl (by omega) ?_
        exact ⟨_, _, rfl, rfl, by omega, (by rw [show Int.toNat (m.1 39) = Int.toNat i_1 by omega]; exact iB)⟩
      · intro kk6
        refine g_iload_n (n := 3) rfl rfl ?_
        refine g_if_eq (by omega) (by omega) rfl ?_ ?_
        · intro kk7
          refine g_iconst rfl ?_
          refine g_istore_n (n := 3) (lo' := [(4, vI i_1), (0, vR 61), (1, vI t), (2, vI e)]) rfl rfl ?_
          have fN : 0 = nfit (fun j => m.2.1 73 (2 * j)) (fun j => m.2.1 73 (2 * j + 1)) t e (Int.toNat (i_1 + 1)) := nfit_st (a := (fun j => m.2.1 73 (2 * j))) (b := (fun j => m.2.1 73 (2 * j + 1))) (by omega) iB (by show (_ = _ ∧ (_ = _ ∨ (m.2.1 73 (2 * i_1) = t ∧ m.2.1 73 (2 * i_1 + 1) ≠ e))) ∨ (_ = _ ∧ _ = _ ∧ ¬ (m.2.1 73 (2 * i_1) = t ∧ m.2.1 73 (2 * i_1 + 1) ≠ e)); omega)
          refine g_iinc (n := 4) (lo' := [(3, vI 0), (0, vR 61), (1, vI t), (2, vI e)]) rfl rfl rfl ?_
          refine g_goto rfl ?_
          exact ih5_1 _ (by omega) 0 (i_1 + 1) (by omega) (by omega) (by omega) fN rfl
        · intro kk8
          refine g_aload_n (n := 0) rfl rfl ?_
          refine g_getf (v := vR 73) rfl (kl_61 _) rfl ?_
          refine g_iconst rfl ?_
          refine g_iload (n := 4) rfl rfl ?_
          refine g_imul rfl ?_
          have h9 : (-2147483648) ≤ m.2.1 73 (2 * i_1) ∧ m.2.1 73 (2 * i_1) ≤ 2147483647 := hm.2 73 (2 * i_1) (by omega) (show (2 * i_1) < (16 : Int) by omega)
          refine g_iald (f := m.2.1 73) rfl (kl_73 _) (by decide) (by omega) (by omega) ?_
          refine g_iload_n (n := 1) rfl rfl ?_
          refine g_icmp_ne (by omega) (by omega) (by omega) (by omega) rfl ?_ ?_
          · intro kk10
            refine g_iconst rfl ?_
            refine g_goto rfl ?_
            refine g_istore_n (n := 3) (lo' := [(4, vI i_1), (0, vR 61), (1, vI t), (2, vI e)]) rfl rfl ?_
            have fN : 1 = nfit (fun j => m.2.1 73 (2 * j)) (fun j => m.2.1 73 (2 * j + 1)) t e (Int.toNat (i_1 + 1)) := nfit_st (a := (fun j => m.2.1 73 (2 * j))) (b := (fun j => m.2.1 73 (2 * j + 1))) (by omega) iB (by show (_ = _ ∧ (_ = _ ∨ (m.2.1 73 (2 * i_1) = t ∧ m.2.1 73 (2 * i_1 + 1) ≠ e))) ∨ (_ = _ ∧ _ = _ ∧ ¬ (m.2.1 73 (2 * i_1) = t ∧ m.2.1 73 (2 * i_1 + 1) ≠ e)); omega)
            refine g_iinc (n := 4) (lo' := [(3, vI 1), (0, vR 61), (1, vI t), (2, vI e)]) rfl rfl rfl ?_
            refine g_goto rfl ?_
            exact ih5_1 _ (by omega) 1 (i_1 + 1) (by omega) (by omega) (by omega) fN rfl
          · intro kk11
            refine g_aload_n (n := 0) rfl rfl ?_
            refine g_getf (v := vR 73) rfl (kl_61 _) rfl ?_
            refine g_iconst rfl ?_
            refine g_iload (n := 4) rfl rfl ?_
            refine g_imul rfl ?_
            refine g_iconst rfl ?_
            refine g_iadd rfl ?_
            have h12 : (-2147483648) ≤ m.2.1 73 ((2 * i_1) + 1) ∧ m.2.1 73 ((2 * i_1) + 1) ≤ 2147483647 := hm.2 73 ((2 * i_1) + 1) (by omega) (show ((2 * i_1) + 1) < (16 : Int) by omega)
            refine g_iald (f := m.2.1 73) rfl (kl_73 _) (by decide) (by omega) (by omega) ?_
            refine g_iload_n (n := 2) rfl rfl ?_
            refine g_icmp_ne (by omega) (by omega) (by omega) (by omega) rfl ?_ ?_
            · intro kk13
              refine g_iconst rfl ?_
              refine g_istore_n (n := 3) (lo' := [(4, vI i_1), (0, vR 61), (1, vI t), (2, vI e)]) rfl rfl ?_
              have fN : 0 = nfit (fun j => m.2.1 73 (2 * j)) (fun j => m.2.1 73 (2 * j + 1)) t e (Int.toNat (i_1 + 1)) := nfit_st (a := (fun j => m.2.1 73 (2 * j))) (b := (fun j => m.2.1 73 (2 * j + 1))) (by omega) iB (by show (_ = _ ∧ (_ = _ ∨ (m.2.1 73 (2 * i_1) = t ∧ m.2.1 73 (2 * i_1 + 1) ≠ e))) ∨ (_ = _ ∧ _ = _ ∧ ¬ (m.2.1 73 (2 * i_1) = t ∧ m.2.1 73 (2 * i_1 + 1) ≠ e)); omega)
              refine g_iinc (n := 4) (lo' := [(3, vI 0), (0, vR 61), (1, vI t), (2, vI e)]) rfl rfl rfl ?_
              refine g_goto rfl ?_
              exact ih5_1 _ (by omega) 0 (i_1 + 1) (by omega) (by omega) (by omega) fN rfl
            · intro kk14
              refine g_iconst rfl ?_
              refine g_goto rfl ?_
              refine g_istore_n (n := 3) (lo' := [(4, vI i_1), (0, vR 61), (1, vI t), (2, vI e)]) rfl rfl ?_
              have fN : 1 = nfit (fun j => m.2.1 73 (2 * j)) (fun j => m.2.1 73 (2 * j + 1)) t e (Int.toNat (i_1 + 1)) := nfit_st (a := (fun j => m.2.1 73 (2 * j))) (b := (fun j => m.2.1 73 (2 * j + 1))) (by omega) iB (by show (_ = _ ∧ (_ = _ ∨ (m.2.1 73 (2 * i_1) = t ∧ m.2.1 73 (2 * i_1 + 1) ≠ e))) ∨ (_ = _ ∧ _ = _ ∧ ¬ (m.2.1 73 (2 * i_1) = t ∧ m.2.1 73 (2 * i_1 + 1) ≠ e)); omega)
              refine g_iinc (n := 4) (lo' := [(3, vI 1), (0, vR 61), (1, vI t), (2, vI e)]) rfl rfl rfl ?_
              refine g_goto rfl ?_
              exact ih5_1 _ (by omega) 1 (i_1 + 1) (by omega) (by omega) (by omega) fN rfl
  exact L5_1 _ 1 0 (by omega) (by omega) (by omega) rfl rfl
theorem d_leads {V : cg_V} {d q : Nat} (hd : 1 ≤ d) (hq : 24 ≤ q) {m : kM} (hm : kI m) {t a b : Int} (h_t : (-2147483648) ≤ t ∧ t ≤ 2147483647) (h_a : 0 ≤ a ∧ a ≤ 5) (h_b : 0 ≤ b ∧ b ≤ 5) (hK : ∀ e : Int, 0 ≤ e → e < m.1 26 → m.2.1 66 (4 * e) ≠ m.2.1 66 (4 * e + 1)) : cg_S V d q mX10_leads [vR 61, vI t, vI a, vI b] (kl m) (R_J (fun z m' => (m = m') ∧ (-9223372036854775808 ≤ z) ∧ (z < 9223372036854775808) ∧ (0 ≤ z) ∧ (z ≤ 11) ∧ (z = npl (dRA m) t a b (Int.toNat (m.1 26) + 1)))) := by
  refine cg_of (List.mem_of_getElem? (show ae_MT[181]? = some mX10_leads from rfl)) (Nat.le_of_ble_eq_true rfl) ?_
  show cg_G V mX10_leads d q _ 0 [(0, vR 61), (1, vI t), (2, vI a), (3, vI b)] [] (kl m) 0 0
  have h1 : 0 ≤ m.1 26 ∧ m.1 26 ≤ 10 := hm.1 26
  have J19_1 : ∀ x19_1 : Int, (0 ≤ x19_1 ∧ x19_1 ≤ 1) → (x19_1 = npl (dRA m) t a b 1) → cg_G V mX10_leads d q (R_J (fun z m' => (m = m') ∧ (-9223372036854775808 ≤ z) ∧ (z < 9223372036854775808) ∧ (0 ≤ z) ∧ (z ≤ 11) ∧ (z = npl (dRA m) t a b (Int.toNat (m.1 26) + 1)))) 19 [(0, vR 61), (1, vI t), (2, vI a), (3, vI b)] [vL x19_1] (kl m) 0 0 := by
    intro x19_1 hx19_1_0 hx19_1_1
    refine g_lstore (n := 4) (lo' := [(0, vR 61), (1, vI t), (2, vI a), (3, vI b)]) rfl rfl ?_
    refine g_iconst rfl ?_
    refine g_istore (n := 6) (lo' := [(4, vL x19_1), (0, vR 61), (1, vI t), (2, vI a), (3, vI b)]) rfl rfl ?_
    have L24_1 : ∀ (n24_1 : Nat) (s_1 : Int) (e_1 : Int), (0 ≤ s_1 ∧ s_1 ≤ 11) → (0 ≤ e_1 ∧ e_1 ≤ 10) → (e_1 ≤ m.1 26) → (s_1 = npl (dRA m) t a b (Int.toNat (e_1 + 1))) → (s_1 ≤ e_1 + 1) → ((10 - e_1).toNat) = n24_1 → cg_G V mX10_leads d q (R_J (fun z m' => (m = m') ∧ (-9223372036854775808 ≤ z) ∧ (z < 9223372036854775808) ∧ (0 ≤ z) ∧ (z ≤ 11) ∧ (z = npl (dRA m) t a b (Int.toNat (m.1 26) + 1)))) 24 [(6, vI e_1), (4, vL s_1), (0, vR 61), (1, vI t), (2, vI a), (3, vI b)] [] (kl m) 0 0 := by
      intro n24_1
      induction n24_1 using Nat.strongRecOn with
      | _ n24_1 ih24_1 =>
        intro s_1 e_1 i2 i3 iE iS iQ q4
        refine g_iload (n := 6) rfl rfl ?_
        refine g_aload_n (n := 0) rfl rfl ?_
        refine g_getf (v := vI (m.1 26)) rfl (kl_61 _) rfl ?_
        refine g_icmp_ge (by omega) (by omega) (by omega) (by omega) rfl ?_ ?_
        · intro kk5
          refine g_lload (n := 4) rfl rfl ?_
          refine g_lret rfl rfl ?_
          exact ⟨_, _, rfl, rfl, by omega, by omega, by omega, by omega, (by rw [iS, show Int.toNat (e_1 + 1) = Int.toNat (m.1 26) + 1 by omega])⟩
        · intro kk6
          refine g_aload_n (n := 0) rfl rfl ?_
          refine g_getf (v := vR 66) rfl (kl_61 _) rfl ?_
          refine g_iconst rfl ?_
          refine g_iload (n := 6) rfl rfl ?_
          refine g_imul rfl ?_
          refine g_iconst rfl ?_
          refine g_iadd rfl ?_
          have h7 : 0 ≤ m.2.1 66 ((4 * e_1) + 2) ∧ m.2.1 66 ((4 * e_1) + 2) ≤ 5 := hm.2 66 ((4 * e_1) + 2) (by omega) (show ((4 * e_1) + 2) < (40 : Int) by omega)
          refine g_iald (f := m.2.1 66) rfl (kl_66 _) (by decide) (by omega) (by omega) ?_
          refine g_istore (n := 7) (lo' := [(6, vI e_1), (4, vL s_1), (0, vR 61), (1, vI t), (2, vI a), (3, vI b)]) rfl rfl ?_
          have J113_2 : ∀ x113_2 : Int, (0 ≤ x113_2 ∧ x113_2 ≤ 1) → ((x113_2 = 1 ∧ ((m.2.1 66 (4 * e_1) = a ∧ m.2.1 66 (4 * e_1 + 1) = b) ∨ (m.2.1 66 (4 * e_1 + 2) ≠ 1 ∧ m.2.1 66 (4 * e_1 + 1) = a ∧ m.2.1 66 (4 * e_1) = b))) ∨ (x113_2 = 0 ∧ ¬ ((m.2.1 66 (4 * e_1) = a ∧ m.2.1 66 (4 * e_1 + 1) = b) ∨ (m.2.1 66 (4 * e_1 + 2) ≠ 1 ∧ m.2.1 66 (4 * e_1 + 1) = a ∧ m.2.1 66 (4 * e_1) = b)))) → cg_G V mX10_leads d q (R_J (fun z m' => (m = m') ∧ (-9223372036854775808 ≤ z) ∧ (z < 9223372036854775808) ∧ (0 ≤ z) ∧ (z ≤ 11) ∧ (z = npl (dRA m) t a b (Int.toNat (m.1 26) + 1)))) 113 [(7, vI (m.2.1 66 ((4 * e_1) + 2))), (6, vI e_1), (4, vL s_1), (0, vR 61), (1, vI t), (2, vI a), (3, vI b)] [vI x113_2] (kl m) 0 0 := by
            intro x113_2 hx113_2_0 hx113_2_1
            refine g_istore (n := 8) (lo' := [(7, vI (m.2.1 66 ((4 * e_1) + 2))), (6, vI e_1), (4, vL s_1), (0, vR 61), (1, vI t), (2, vI a), (3, vI b)]) rfl rfl ?_
            refine g_lload (n := 4) rfl rfl ?_
            have J143_3 : ∀ x143_3 : Int, (0 ≤ x143_3 ∧ x143_3 ≤ 1) → (x143_3 = (if dRA m t e_1 a = b then 1 else 0)) → cg_G V mX10_leads d q (R_J (fun z m' => (m = m') ∧ (-9223372036854775808 ≤ z) ∧ (z < 9223372036854775808) ∧ (0 ≤ z) ∧ (z ≤ 11) ∧ (z = npl (dRA m) t a b (Int.toNat (m.1 26) + 1)))) 143 [(8, vI x113_2), (7, vI (m.2.1 66 ((4 * e_1) + 2))), (6, vI e_1), (4, vL s_1), (0, vR 61), (1, vI t), (2, vI a), (3, vI b)] [vL x143_3, vL s_1] (kl m) 0 0 := by
              intro x143_3 hx143_3_0 hx143_3_1
              refine g_ladd rfl ?_
              refine g_lstore (n := 4) (lo' := [(8, vI x113_2), (7, vI (m.2.1 66 ((4 * e_1) + 2))), (6, vI e_1), (0, vR 61), (1, vI t), (2, vI a), (3, vI b)]) rfl rfl ?_
              refine g_iinc (n := 6) (lo' := [(4, vL (s_1 + x143_3)), (8, vI x113_2), (7, vI (m.2.1 66 ((4 * e_1) + 2))), (0, vR 61), (1, vI t), (2, vI a), (3, vI b)]) rfl rfl rfl ?_
              refine g_goto rfl ?_
              refine g_pick (lo' := [(6, vI (e_1 + 1)), (4, vL (s_1 + x143_3)), (0, vR 61), (1, vI t), (2, vI a), (3, vI b)]) [0, 1, 4, 5, 6, 7] rfl ?_
              exact ih24_1 _ (by omega) (s_1 + x143_3) (e_1 + 1) (by omega) (by omega) (by omega) (by rw [npl_next (show -1 ≤ e_1 by omega), ← iS, ← hx143_3_1]) (by omega) rfl
            refine g_iload (n := 7) rfl rfl ?_
            refine g_iconst rfl ?_
            refine g_icmp_eq (by omega) (by omega) (by decide) (by decide) rfl ?_ ?_
            · intro kk8
              refine g_lconst (x := 0) (by decide) rfl ?_
              exact J143_3 0 (by omega) (by first | exact (if_pos ((dRA_b (by omega) (by omega) (by omega) (hK e_1 (by omega) (by omega))).mpr ⟨by omega, by omega, by omega⟩)).symm | exact (if_neg (fun h9 => by have h8 := (dRA_b (by omega) (by omega) (by omega) (hK e_1 (by omega) (by omega))).mp h9; omega)).symm)
            · intro kk9
              refine g_iload (n := 8) rfl rfl ?_
              refine g_if_eq (by omega) (by omega) rfl ?_ ?_
              · intro kk10
                refine g_lconst (x := 0) (by decide) rfl ?_
                exact J143_3 0 (by omega) (by first | exact (if_pos ((dRA_b (by omega) (by omega) (by omega) (hK e_1 (by omega) (by omega))).mpr ⟨by omega, by omega, by omega⟩)).symm | exact (if_neg (fun h9 => by have h8 := (dRA_b (by omega) (by omega) (by omega) (hK e_1 (by omega) (by omega))).mp h9; omega)).symm)
              · intro kk11
                refine g_aload_n (n := 0) rfl rfl ?_
                refine g_iload_n (n := 1) rfl rfl ?_
                refine g_iload (n := 6) rfl rfl ?_
                have h12 : 0 ≤ m.1 39 ∧ m.1 39 ≤ 8 := hm.1 39
                refine c_vI (i := 61) (ps := [vI e_1, vI t]) (r := [vL s_1]) (as := [vR 61, vI t, vI e_1]) (cs' := 0) (sl' := 0) rfl rfl rfl rfl rfl rfl (kl_61 _) (d_fits (d := d - 1) (q := q - (5 + 19)) (by omega) (by omega) hm (t := t) (e := e_1) (show (-2147483648) ≤ t ∧ t ≤ 2147483647 by omega) (show (-2147483648) ≤ e_1 ∧ e_1 ≤ 2147483647 by omega)) (by omega) (show 5 + 19 ≤ q by omega) (Nat.le_of_ble_eq_true rfl) (Nat.le_of_ble_eq_true rfl) rfl rfl rfl ?_
                rintro z13 m14 ⟨rfl, p16, p17⟩
                refine g_if_eq (by omega) (by omega) rfl ?_ ?_
                · intro kk18
                  refine g_lconst (x := 0) (by decide) rfl ?_
                  exact J143_3 0 (by omega) (by first | exact (if_pos ((dRA_b (by omega) (by omega) (by omega) (hK e_1 (by omega) (by omega))).mpr ⟨by omega, by omega, by omega⟩)).symm | exact (if_neg (fun h9 => by have h8 := (dRA_b (by omega) (by omega) (by omega) (hK e_1 (by omega) (by omega))).mp h9; omega)).symm)
                · intro kk19
                  refine g_lconst (x := 1) (by decide) rfl ?_
                  refine g_goto rfl ?_
                  exact J143_3 1 (by omega) (by first | exact (if_pos ((dRA_b (by omega) (by omega) (by omega) (hK e_1 (by omega) (by omega))).mpr ⟨by omega, by omega, by omega⟩)).symm | exact (if_neg (fun h9 => by have h8 := (dRA_b (by omega) (by omega) (by omega) (hK e_1 (by omega) (by omega))).mp h9; omega)).symm)
          refine g_aload_n (n := 0) rfl rfl ?_
          refine g_getf (v := vR 66) rfl (kl_61 _) rfl ?_
          refine g_iconst rfl ?_
          refine g_iload (n := 6) rfl rfl ?_
          refine g_imul rfl ?_
          have h20 : 0 ≤ m.2.1 66 (4 * e_1) ∧ m.2.1 66 (4 * e_1) ≤ 5 := hm.2 66 (4 * e_1) (by omega) (show (4 * e_1) < (40 : Int) by omega)
          refine g_iald (f := m.2.1 66) rfl (kl_66 _) (by decide) (by omega) (by omega) ?_
          refine g_iload_n (n := 2) rfl rfl ?_
          refine g_icmp_ne (by omega) (by omega) (by omega) (by omega) rfl ?_ ?_
          · intro kk21
            refine g_iload (n := 7) rfl rfl ?_
            refine g_iconst rfl ?_
            refine g_icmp_eq (by omega) (by omega) (by decide) (by decide) rfl ?_ ?_
            · intro kk22
              refine g_iconst rfl ?_
              exact J113_2 0 (by omega) (by omega)
            · intro kk23
              refine g_aload_n (n := 0) rfl rfl ?_
              refine g_getf (v := vR 66) rfl (kl_61 _) rfl ?_
              refine g_iconst rfl ?_
              refine g_iload (n := 6) rfl rfl ?_
              refine g_imul rfl ?_
              refine g_iconst rfl ?_
              refine g_iadd rfl ?_
              have h24 : 0 ≤ m.2.1 66 ((4 * e_1) + 1) ∧ m.2.1 66 ((4 * e_1) + 1) ≤ 5 := hm.2 66 ((4 * e_1) + 1) (by omega) (show ((4 * e_1) + 1) < (40 : Int) by omega)
              refine g_iald (f := m.2.1 66) rfl (kl_66 _) (by decide) (by omega) (by omega) ?_
              refine g_iload_n (n := 2) rfl rfl ?_
              refine g_icmp_ne (by omega) (by omega) (by omega) (by omega) rfl ?_ ?_
              · intro kk25
                refine g_iconst rfl ?_
                exact J113_2 0 (by omega) (by omega)
              · intro kk26
                refine g_aload_n (n := 0) rfl rfl ?_
                refine g_getf (v := vR 66) rfl (kl_61 _) rfl ?_
                refine g_iconst rfl ?_
                refine g_iload (n := 6) rfl rfl ?_
                refine g_imul rfl ?_
                have h27 : 0 ≤ m.2.1 66 (4 * e_1) ∧ m.2.1 66 (4 * e_1) ≤ 5 := hm.2 66 (4 * e_1) (by omega) (show (4 * e_1) < (40 : Int) by omega)
                refine g_iald (f := m.2.1 66) rfl (kl_66 _) (by decide) (by omega) (by omega) ?_
                refine g_iload_n (n := 3) rfl rfl ?_
                refine g_icmp_ne (by omega) (by omega) (by omega) (by omega) rfl ?_ ?_
                · intro kk28
                  refine g_iconst rfl ?_
                  exact J113_2 0 (by omega) (by omega)
                · intro kk29
                  refine g_iconst rfl ?_
                  refine g_goto rfl ?_
                  exact J113_2 1 (by omega) (by omega)
          · intro kk30
            refine g_aload_n (n := 0) rfl rfl ?_
            refine g_getf (v := vR 66) rfl (kl_61 _) rfl ?_
            refine g_iconst rfl ?_
            refine g_iload (n := 6) rfl rfl ?_
            refine g_imul rfl ?_
            refine g_iconst rfl ?_
            refine g_iadd rfl ?_
            have h31 : 0 ≤ m.2.1 66 ((4 * e_1) + 1) ∧ m.2.1 66 ((4 * e_1) + 1) ≤ 5 := hm.2 66 ((4 * e_1) + 1) (by omega) (show ((4 * e_1) + 1) < (40 : Int) by omega)
            refine g_iald (f := m.2.1 66) rfl (kl_66 _) (by decide) (by omega) (by omega) ?_
            refine g_iload_n (n := 3) rfl rfl ?_
            refine g_icmp_eq (by omega) (by omega) (by omega) (by omega) rfl ?_ ?_
            · intro kk32
              refine g_iconst rfl ?_
              refine g_goto rfl ?_
              exact J113_2 1 (by omega) (by omega)
            · intro kk33
              refine g_iload (n := 7) rfl rfl ?_
              refine g_iconst rfl ?_
              refine g_icmp_eq (by omega) (by omega) (by decide) (by decide) rfl ?_ ?_
              · intro kk34
                refine g_iconst rfl ?_
                exact J113_2 0 (by omega) (by omega)
              · intro kk35
                refine g_aload_n (n := 0) rfl rfl ?_
                refine g_getf (v := vR 66) rfl (kl_61 _) rfl ?_
                refine g_iconst rfl ?_
                refine g_iload (n := 6) rfl rfl ?_
                refine g_imul rfl ?_
                refine g_iconst rfl ?_
                refine g_iadd rfl ?_
                have h36 : 0 ≤ m.2.1 66 ((4 * e_1) + 1) ∧ m.2.1 66 ((4 * e_1) + 1) ≤ 5 := hm.2 66 ((4 * e_1) + 1) (by omega) (show ((4 * e_1) + 1) < (40 : Int) by omega)
                refine g_iald (f := m.2.1 66) rfl (kl_66 _) (by decide) (by omega) (by omega) ?_
                refine g_iload_n (n := 2) rfl rfl ?_
                refine g_icmp_ne (by omega) (by omega) (by omega) (by omega) rfl ?_ ?_
                · intro kk37
                  refine g_iconst rfl ?_
                  exact J113_2 0 (by omega) (by omega)
                · intro kk38
                  refine g_aload_n (n := 0) rfl rfl ?_
                  refine g_getf (v := vR 66) rfl (kl_61 _) rfl ?_
                  refine g_iconst rfl ?_
                  refine g_iload (n := 6) rfl rfl ?_
                  refine g_imul rfl ?_
                  have h39 : 0 ≤ m.2.1 66 (4 * e_1) ∧ m.2.1 66 (4 * e_1) ≤ 5 := hm.2 66 (4 * e_1) (by omega) (show (4 * e_1) < (40 : Int) by omega)
                  refine g_iald (f := m.2.1 66) rfl (kl_66 _) (by decide) (by omega) (by omega) ?_
                  refine g_iload_n (n := 3) rfl rfl ?_
                  refine g_icmp_ne (by omega) (by omega) (by omega) (by omega) rfl ?_ ?_
                  · intro kk40
                    refine g_iconst rfl ?_
                    exact J113_2 0 (by omega) (by omega)
                  · intro kk41
                    refine g_iconst rfl ?_
                    refine g_goto rfl ?_
                    exact J113_2 1 (by omega) (by omega)
    exact L24_1 _ x19_1 0 (by omega) (by omega) (by omega) hx19_1_1 (by omega) rfl
  refine g_iload_n (n := 2) rfl rfl ?_
  refine g_iload_n (n := 3) rfl rfl ?_
  refine g_icmp_ne (by omega) (by omega) (by omega) (by omega) rfl ?_ ?_
  · intro kk42
    refine g_lconst (x := 0) (by decide) rfl ?_
    exact J19_1 0 (by omega) (d_npl1 (by omega) (by first | exact Or.inl ⟨rfl, by omega, by omega⟩ | exact Or.inr ⟨rfl, by omega⟩))
  · intro kk43
    refine g_aload_n (n := 0) rfl rfl ?_
    refine g_iload_n (n := 1) rfl rfl ?_
    refine g_iconst rfl ?_
    have h44 : 0 ≤ m.1 39 ∧ m.1 39 ≤ 8 := hm.1 39
    refine c_vI (i := 61) (ps := [vI (-1), vI t]) (r := []) (as := [vR 61, vI t, vI (-1)]) (cs' := 0) (sl' := 0) rfl rfl rfl rfl rfl rfl (kl_61 _) (d_fits (d := d - 1) (q := q - (5 + 19)) (by omega) (by omega) hm (t := t) (e := (-1)) (show (-2147483648) ≤ t ∧ t ≤ 2147483647 by omega) (show (-2147483648) ≤ (-1) ∧ (-1) ≤ 2147483647 by omega)) (by omega) (show 5 + 19 ≤ q by omega) (Nat.le_of_ble_eq_true rfl) (Nat.le_of_ble_eq_true rfl) rfl rfl rfl ?_
    rintro z45 m46 ⟨rfl, p48, p49⟩
    refine g_if_eq (by omega) (by omega) rfl ?_ ?_
    · intro kk50
      refine g_lconst (x := 0) (by decide) rfl ?_
      exact J19_1 0 (by omega) (d_npl1 (by omega) (by first | exact Or.inl ⟨rfl, by omega, by omega⟩ | exact Or.inr ⟨rfl, by omega⟩))
    · intro kk51
      refine g_lconst (x := 1) (by decide) rfl ?_
      refine g_goto rfl ?_
      exact J19_1 1 (by omega) (d_npl1 (by omega) (by first | exact Or.inl ⟨rfl, by omega, by omega⟩ | exact Or.inr ⟨rfl, by omega⟩))
theorem d_layNight {V : cg_V} {d q : Nat} (hd : 2 ≤ d) (hq : 52 ≤ q) {m : kM} (hm : kI m) {n : Int} (h_n : 1 ≤ n ∧ n ≤ 10) (hK : ∀ e : Int, 0 ≤ e → e < m.1 26 → m.2.1 66 (4 * e) ≠ m.2.1 66 (4 * e + 1)) : cg_S V d q mX10_layNight [vR 61, vI n] (kl m) (R_V (fun m' => (kI m') ∧ (fr [] [74, 75] m m') ∧ (∀ j x : Int, 0 ≤ j → j ≤ n → 0 ≤ x → x < m.1 25 → m'.2.1 74 (6 * j + x) = nwr (dWT m (Int.toNat j) x)) ∧ (∀ j x : Int, 0 ≤ j → j ≤ n → 0 ≤ x → x < m.1 25 → m'.2.1 75 (6 * j + x) = nwr (dWO m n (Int.toNat (n - j)) x)))) := by
  have hf0 : fr [] [74, 75] m m := fr_rf m
  refine cg_of (List.mem_of_getElem? (show ae_MT[182]? = some mX10_layNight from rfl)) (Nat.le_of_ble_eq_true rfl) ?_
  show cg_G V mX10_layNight d q _ 0 [(0, vR 61), (1, vI n)] [] (kl m) 0 0
  have h1 : 2 ≤ m.1 25 ∧ m.1 25 ≤ 6 := hm.1 25
  have hR : 2 ≤ m.1 25 ∧ m.1 25 ≤ 6 := hm.1 25
  have hD : 0 ≤ m.1 26 ∧ m.1 26 ≤ 10 := hm.1 26
  refine g_iconst rfl ?_
  refine g_istore_n (n := 2) (lo' := [(0, vR 61), (1, vI n)]) rfl rfl ?_
  have L2_1 : ∀ (n2_1 : Nat) (r_1 : Int) (mL1 : kM), (kI mL1) → (fr [] [74, 75] m mL1) → (0 ≤ r_1 ∧ r_1 ≤ 6) → (∀ x : Int, 0 ≤ x → x < r_1 → mL1.2.1 74 x = nwr (dWT m 0 x)) → (∀ x : Int, 0 ≤ x → x < r_1 → mL1.2.1 75 (6 * n + x) = 1) → ((6 - r_1).toNat) = n2_1 → cg_G V mX10_layNight d q (R_V (fun m' => (kI m') ∧ (fr [] [74, 75] m m') ∧ (∀ j x : Int, 0 ≤ j → j ≤ n → 0 ≤ x → x < m.1 25 → m'.2.1 74 (6 * j + x) = nwr (dWT m (Int.toNat j) x)) ∧ (∀ j x : Int, 0 ≤ j → j ≤ n → 0 ≤ x → x < m.1 25 → m'.2.1 75 (6 * j + x) = nwr (dWO m n (Int.toNat (n - j)) x)))) 2 [(2, vI r_1), (0, vR 61), (1, vI n)] [] (kl mL1) 0 0 := by
    intro n2_1
    induction n2_1 using Nat.strongRecOn with
    | _ n2_1 ih2_1 =>
      intro r_1 mL1 hmL1 hfL1 i2 iA iB q3
      refine g_iload_n (n := 2) rfl rfl ?_
      refine g_bipush (by decide) rfl ?_
      refine g_icmp_ge (by omega) (by omega) (by decide) (by decide) rfl ?_ ?_
      · intro kk4
        have a0 : ∀ j x : Int, 0 ≤ j → j ≤ 0 → 0 ≤ x → x < m.1 25 → mL1.2.1 74 (6 * j + x) = nwr (dWT m (Int.toNat j) x) := fun j x a b c d => by have e0 : j = 0 := (by omega); rw [e0, show 6 * 0 + x = x by omega]; exact iA x c (by omega)
        have b0 : ∀ x : Int, 0 ≤ x → x < 6 → mL1.2.1 75 (6 * n + x) = 1 := fun x c d => iB x c (by omega)
        refine g_iconst rfl ?_
        refine g_istore_n (n := 2) (lo' := [(0, vR 61), (1, vI n)]) rfl rfl ?_
        have L47_2 : ∀ (n47_2 : Nat) (t_2 : Int) (mL2 : kM), (kI mL2) → (fr [] [74, 75] m mL2) → (0 ≤ t_2 ∧ t_2 ≤ 10) → (t_2 ≤ n) → (∀ j x : Int, 0 ≤ j → j ≤ t_2 → 0 ≤ x → x < m.1 25 → mL2.2.1 74 (6 * j + x) = nwr (dWT m (Int.toNat j) x)) → (∀ x : Int, 0 ≤ x → x < 6 → mL2.2.1 75 (6 * n + x) = 1) → ((10 - t_2).toNat) = n47_2 → cg_G V mX10_layNight d q (R_V (fun m' => (kI m') ∧ (fr [] [74, 75] m m') ∧ (∀ j x : Int, 0 ≤ j → j ≤ n → 0 ≤ x → x < m.1 25 → m'.2.1 74 (6 * j + x) = nwr (dWT m (Int.toNat j) x)) ∧ (∀ j x : Int, 0 ≤ j → j ≤ n → 0 ≤ x → x < m.1 25 → m'.2.1 75 (6 * j + x) = nwr (dWO m n (Int.toNat (n - j)) x)))) 47 [(2, vI t_2), (0, vR 61), (1, vI n)] [] (kl mL2) 0 0 := by
          intro n47_2
          induction n47_2 using Nat.strongRecOn with
          | _ n47_2 ih47_2 =>
            intro t_2 mL2 hmL2 hfL2 i5 oT oA oB q6
            refine g_iload_n (n := 2) rfl rfl ?_
            refine g_iload_n (n := 1) rfl rfl ?_
            refine g_icmp_ge (by omega) (by omega) (by omega) (by omega) rfl ?_ ?_
            · intro kk7
              have p0 : ∀ j x : Int, 0 ≤ j → j ≤ n → 0 ≤ x → x < m.1 25 → mL2.2.1 74 (6 * j + x) = nwr (dWT m (Int.toNat j) x) := fun j x a b c d => oA j x a (by omega) c d
              have d0 : ∀ j x : Int, n - 1 < j → j ≤ n → 0 ≤ x → x < m.1 25 → mL2.2.1 75 (6 * j + x) = nwr (dWO m n (Int.toNat (n - j)) x) := by
                intro j x a b c d
                have e0 : j = n := by omega
                rw [e0, oB x c (by omega), show Int.toNat (n - n) = 0 by omega]; exact (nwr_id (by decide) (by decide)).symm
              refine g_iload_n (n := 1) rfl rfl ?_
              refine g_iconst rfl ?_
              refine g_isub rfl ?_
              refine g_istore_n (n := 2) (lo' := [(0, vR 61), (1, vI n)]) rfl rfl ?_
              have L141_3 : ∀ (n141_3 : Nat) (t_3 : Int) (mL3 : kM), (kI mL3) → (fr [] [74, 75] m mL3) → ((-1) ≤ t_3 ∧ t_3 ≤ 9) → (t_3 ≤ n - 1) → (∀ j x : Int, 0 ≤ j → j ≤ n → 0 ≤ x → x < m.1 25 → mL3.2.1 74 (6 * j + x) = nwr (dWT m (Int.toNat j) x)) → (∀ j x : Int, t_3 < j → j ≤ n → 0 ≤ x → x < m.1 25 → mL3.2.1 75 (6 * j + x) = nwr (dWO m n (Int.toNat (n - j)) x)) → ((t_3 + 1).toNat) = n141_3 → cg_G V mX10_layNight d q (R_V (fun m' => (kI m') ∧ (fr [] [74, 75] m m') ∧ (∀ j x : Int, 0 ≤ j → j ≤ n → 0 ≤ x → x < m.1 25 → m'.2.1 74 (6 * j + x) = nwr (dWT m (Int.toNat j) x)) ∧ (∀ j x : Int, 0 ≤ j → j ≤ n → 0 ≤ x → x < m.1 25 → m'.2.1 75 (6 * j + x) = nwr (dWO m n (Int.toNat (n - j)) x)))) 141 [(2, vI t_3), (0, vR 61), (1, vI n)] [] (kl mL3) 0 0 := by
                intro n141_3
                induction n141_3 using Nat.strongRecOn with
                | _ n141_3 ih141_3 =>
                  intro t_3 mL3 hmL3 hfL3 i8 pT pA pD q9
                  refine g_iload_n (n := 2) rfl rfl ?_
                  refine g_if_lt (by omega) (by omega) rfl ?_ ?_
                  · intro kk10
                    refine g_vret rfl rfl ?_
                    exact ⟨_, rfl, hmL3, hfL3, pA, (fun j x a b c d => pD j x (by omega) b c d)⟩
                  · intro kk11
                    refine g_iconst rfl ?_
                    refine g_istore_n (n := 3) (lo' := [(2, vI t_3), (0, vR 61), (1, vI n)]) rfl rfl ?_
                    have L147_4 : ∀ (n147_4 : Nat) (b_4 : Int) (mL4 : kM), (kI mL4) → (fr [] [74, 75] m mL4) → (0 ≤ b_4 ∧ b_4 ≤ 6) → (b_4 ≤ m.1 25) → (∀ j x : Int, 0 ≤ j → j ≤ n → 0 ≤ x → x < m.1 25 → mL4.2.1 74 (6 * j + x) = nwr (dWT m (Int.toNat j) x)) → (∀ j x : Int, t_3 < j → j ≤ n → 0 ≤ x → x < m.1 25 → mL4.2.1 75 (6 * j + x) = nwr (dWO m n (Int.toNat (n - j)) x)) → (∀ x : Int, 0 ≤ x → x < b_4 → mL4.2.1 75 (6 * t_3 + x) = nwr (dWO m n (Int.toNat (n - t_3)) x)) → ((6 - b_4).toNat) = n147_4 → cg_G V mX10_layNight d q (R_V (fun m' => (kI m') ∧ (fr [] [74, 75] m m') ∧ (∀ j x : Int, 0 ≤ j → j ≤ n → 0 ≤ x → x < m.1 25 → m'.2.1 74 (6 * j + x) = nwr (dWT m (Int.toNat j) x)) ∧ (∀ j x : Int, 0 ≤ j → j ≤ n → 0 ≤ x → x < m.1 25 → m'.2.1 75 (6 * j + x) = nwr (dWO m n (Int.toNat (n - j)) x)))) 147 [(3, vI b_4), (2, vI t_3), (0, vR 61), (1, vI n)] [] (kl mL4) 0 0 := by
                      intro n147_4
                      induction n147_4 using Nat.strongRecOn with
                      | _ n147_4 ih147_4 =>
                        intro b_4 mL4 hmL4 hfL4 i12 pL pA2 pD2 pE q13
                        refine g_iload_n (n := 3) rfl rfl ?_
                        refine g_aload_n (n := 0) rfl rfl ?_
                        have h14 : 2 ≤ mL4.1 25 ∧ mL4.1 25 ≤ 6 := hmL4.1 25
                        have h15 : mL4.1 25 = m.1 25 := hfL4.1 25 rfl
                        refine g_getf (v := vI (mL4.1 25)) rfl (kl_61 _) rfl ?_
                        refine g_icmp_ge (by omega) (by omega) (by omega) (by omega) rfl ?_ ?_
                        · intro kk16
                          have dN : ∀ j x : Int, t_3 + (-1) < j → j ≤ n → 0 ≤ x → x < m.1 25 → mL4.2.1 75 (6 * j + x) = nwr (dWO m n (Int.toNat (n - j)) x) := by
                            intro j x a b c d
                            by_cases q : j = t_3
                            · rw [q]; exact pE x c (by omega)
                            · exact pD2 j x (by omega) b c d
                          refine g_iinc (n := 2) (lo' := [(3, vI b_4), (0, vR 61), (1, vI n)]) rfl rfl rfl ?_
                          refine g_goto rfl ?_
                          refine g_pick (lo' := [(2, vI (t_3 + (-1))), (0, vR 61), (1, vI n)]) [0, 2, 3] rfl ?_
                          exact ih141_3 _ (by omega) (t_3 + (-1)) mL4 hmL4 hfL4 (by omega) (by omega) pA2 dN rfl
                        · intro kk17
                          refine g_lconst (x := 0) (by decide) rfl ?_
                          refine g_lstore (n := 4) (lo' := [(3, vI b_4), (2, vI t_3), (0, vR 61), (1, vI n)]) rfl rfl ?_
                          refine g_iconst rfl ?_
                          refine g_istore (n := 6) (lo' := [(4, vL 0), (3, vI b_4), (2, vI t_3), (0, vR 61), (1, vI n)]) rfl rfl ?_
                          have L161_5 : ∀ (n161_5 : Nat) (s_5 : Int) (a_5 : Int), ((-9223372036854775808) ≤ s_5 ∧ s_5 ≤ 9223372036854775807) → (0 ≤ a_5 ∧ a_5 ≤ 6) → (a_5 ≤ m.1 25) → (s_5 = nwr (nsm (fun b => npl (dRA m) t_3 b_4 b (Int.toNat (m.1 26) + 1) * dWO m n (Int.toNat (n - t_3 - 1)) b) (Int.toNat a_5))) → ((6 - a_5).toNat) = n161_5 → cg_G V mX10_layNight d q (R_V (fun m' => (kI m') ∧ (fr [] [74, 75] m m') ∧ (∀ j x : Int, 0 ≤ j → j ≤ n → 0 ≤ x → x < m.1 25 → m'.2.1 74 (6 * j + x) = nwr (dWT m (Int.toNat j) x)) ∧ (∀ j x : Int, 0 ≤ j → j ≤ n → 0 ≤ x → x < m.1 25 → m'.2.1 75 (6 * j + x) = nwr (dWO m n (Int.toNat (n - j)) x)))) 161 [(6, vI a_5), (4, vL s_5), (3, vI b_4), (2, vI t_3), (0, vR 61), (1, vI n)] [] (kl mL4) 0 0 := by
                            intro n161_5
                            induction n161_5 using Nat.strongRecOn with
                            | _ n161_5 ih161_5 =>
                              intro s_5 a_5 i18 i19 iG iS q20
                              refine g_iload (n := 6) rfl rfl ?_
                              refine g_aload_n (n := 0) rfl rfl ?_
                              refine g_getf (v := vI (mL4.1 25)) rfl (kl_61 _) rfl ?_
                              refine g_icmp_ge (by omega) (by omega) (by omega) (by omega) rfl ?_ ?_
                              · intro kk21
                                refine g_aload_n (n := 0) rfl rfl ?_
                                refine g_getf (v := vR 75) rfl (kl_61 _) rfl ?_
                                refine g_bipush (by decide) rfl ?_
                                refine g_iload_n (n := 2) rfl rfl ?_
                                refine g_imul rfl ?_
                                refine g_iload_n (n := 3) rfl rfl ?_
                                refine g_iadd rfl ?_
                                refine g_lload (n := 4) rfl rfl ?_
                                refine g_lAst (f := mL4.2.1 75) (m' := (kA mL4 75 (up (mL4.2.1 75) ((6 * t_3) + b_4) s_5))) rfl (kl_75 _) (by decide) (by omega) (by omega) (kA_75 _ _) ?_
                                have hm22 : kI (kA mL4 75 (up (mL4.2.1 75) ((6 * t_3) + b_4) s_5)) := kI_U hmL4 75 rfl (show ((-9223372036854775808) : Int) ≤ s_5 by omega) (show s_5 ≤ (9223372036854775807 : Int) by omega)
                                have hf23 : fr [] [74, 75] m (kA mL4 75 (up (mL4.2.1 75) ((6 * t_3) + b_4) s_5)) := fr_A hfL4 75 _ rfl
                                have eN : ∀ x : Int, 0 ≤ x → x < b_4 + 1 → (kA mL4 75 (up (mL4.2.1 75) ((6 * t_3) + b_4) s_5)).2.1 75 (6 * t_3 + x) = nwr (dWO m n (Int.toNat (n - t_3)) x) := by
                                  intro x h0 h1
                                  show up (mL4.2.1 75) ((6 * t_3) + b_4) s_5 (6 * t_3 + x) = _
                                  by_cases q : x = b_4
                                  · rw [q, dWO_s (show t_3 + 1 ≤ n by omega)]; exact (up_same _ _ _).trans (by rw [iS, show Int.toNat a_5 = Int.toNat (m.1 25) by omega])
                                  · rw [up_ne _ (by omega)]; exact pE x h0 (by omega)
                                have dN : ∀ j x : Int, t_3 < j → j ≤ n → 0 ≤ x → x < m.1 25 → (kA mL4 75 (up (mL4.2.1 75) ((6 * t_3) + b_4) s_5)).2.1 75 (6 * j + x) = nwr (dWO m n (Int.toNat (n - j)) x) := by
                                  intro j x a b c d
                                  show up (mL4.2.1 75) ((6 * t_3) + b_4) s_5 (6 * j + x) = _
                                  rw [up_ne _ (by omega)]; exact pD2 j x a b c d
                                have aN : ∀ j x : Int, 0 ≤ j → j ≤ n → 0 ≤ x → x < m.1 25 → (kA mL4 75 (up (mL4.2.1 75) ((6 * t_3) + b_4) s_5)).2.1 74 (6 * j + x) = nwr (dWT m (Int.toNat j) x) := fun j x a b c d => pA2 j x a b c d
                                refine g_iinc (n := 3) (lo' := [(6, vI a_5), (4, vL s_5), (2, vI t_3), (0, vR 61), (1, vI n)]) rfl rfl rfl ?_
                                refine g_goto rfl ?_
                                refine g_pick (lo' := [(3, vI (b_4 + 1)), (2, vI t_3), (0, vR 61), (1, vI n)]) [0, 3, 4, 5] rfl ?_
                                exact ih147_4 _ (by omega) (b_4 + 1) (kA mL4 75 (up (mL4.2.1 75) ((6 * t_3) + b_4) s_5)) hm22 hf23 (by omega) (by omega) aN dN eN rfl
                              · intro kk24
                                refine g_lload (n := 4) rfl rfl ?_
                                refine g_aload_n (n := 0) rfl rfl ?_
                                refine g_iload_n (n := 2) rfl rfl ?_
                                refine g_iload_n (n := 3) rfl rfl ?_
                                refine g_iload (n := 6) rfl rfl ?_
                                have h25 : 0 ≤ mL4.1 26 ∧ mL4.1 26 ≤ 10 := hmL4.1 26
                                have h26 : mL4.1 26 = m.1 26 := hfL4.1 26 rfl
                                refine c_vL (i := 61) (ps := [vI a_5, vI b_4, vI t_3]) (r := [vL s_5]) (as := [vR 61, vI t_3, vI b_4, vI a_5]) (cs' := 0) (sl' := 0) rfl rfl rfl rfl rfl rfl (kl_61 _) (d_leads (d := d - 1) (q := q - (9 + 19)) (by omega) (by omega) hmL4 (t := t_3) (a := b_4) (b := a_5) (show (-2147483648) ≤ t_3 ∧ t_3 ≤ 2147483647 by omega) (show 0 ≤ b_4 ∧ b_4 ≤ 5 by omega) (show 0 ≤ a_5 ∧ a_5 ≤ 5 by omega) (fun e a b => by rw [hfL4.2.1 66 rfl]; exact hK e a (by have := hfL4.1 26 rfl; omega))) (by omega) (show 9 + 19 ≤ q by omega) (Nat.le_of_ble_eq_true rfl) (Nat.le_of_ble_eq_true rfl) rfl rfl rfl ?_
                                rintro z27 m28 ⟨rfl, p30, p31, p32, p33, p34⟩
                                refine g_aload_n (n := 0) rfl rfl ?_
                                refine g_getf (v := vR 75) rfl (kl_61 _) rfl ?_
                                refine g_bipush (by decide) rfl ?_
                                refine g_iload_n (n := 2) rfl rfl ?_
                                refine g_imul rfl ?_
                                refine g_bipush (by decide) rfl ?_
                                refine g_iadd rfl ?_
                                refine g_iload (n := 6) rfl rfl ?_
                                refine g_iadd rfl ?_
                                have h35 : (-9223372036854775808) ≤ mL4.2.1 75 (((6 * t_3) + 6) + a_5) ∧ mL4.2.1 75 (((6 * t_3) + 6) + a_5) ≤ 9223372036854775807 := hmL4.2 75 (((6 * t_3) + 6) + a_5) (by omega) (show (((6 * t_3) + 6) + a_5) < (66 : Int) by omega)
                                refine g_lald (f := mL4.2.1 75) rfl (kl_75 _) (by decide) (by omega) (by omega) ?_
                                refine g_lmul rfl ?_
                                refine g_nrmL ?_
                                intro z36 h37 h38 h39 h40
                                refine g_ladd rfl ?_
                                refine g_nrmL ?_
                                intro z41 h42 h43 h44 h45
                                have eD : dRA mL4 = dRA m := dRA_of (hfL4.1 26 rfl) (hfL4.1 39 rfl) (hfL4.2.1 66 rfl) (hfL4.2.1 73 rfl)
                                have eL := p34
                                rw [eD, hfL4.1 26 rfl] at eL
                                have eA := pD2 (t_3 + 1) a_5 (by omega) (by omega) (by omega) (by omega)
                                rw [show 6 * (t_3 + 1) + a_5 = 6 * t_3 + 6 + a_5 by omega, show n - (t_3 + 1) = n - t_3 - 1 by omega] at eA
                                have eP : z36 = nwr (npl (dRA m) t_3 b_4 a_5 (Int.toNat (m.1 26) + 1) * dWO m n (Int.toNat (n - t_3 - 1)) a_5) := by rw [← nwr_mul, ← eA, ← eL, nwr_id (x := z27) (by omega) (by omega)]; exact h40
                                have sN : z41 = nwr (nsm (fun b => npl (dRA m) t_3 b_4 b (Int.toNat (m.1 26) + 1) * dWO m n (Int.toNat (n - t_3 - 1)) b) (Int.toNat (a_5 + 1))) := nsm_st (h := (fun b => npl (dRA m) t_3 b_4 b (Int.toNat (m.1 26) + 1) * dWO m n (Int.toNat (n - t_3 - 1)) b)) (by omega) iS eP h45
                                refine g_lstore (n := 4) (lo' := [(6, vI a_5), (3, vI b_4), (2, vI t_3), (0, vR 61), (1, vI n)]) rfl rfl ?_
                                refine g_iinc (n := 6) (lo' := [(4, vL z41), (3, vI b_4), (2, vI t_3), (0, vR 61), (1, vI n)]) rfl rfl rfl ?_
                                refine g_goto rfl ?_
                                exact ih161_5 _ (by omega) z41 (a_5 + 1) (by omega) (by omega) (by omega) sN rfl
                          exact L161_5 _ 0 0 (by omega) (by omega) (by omega) (nwr_id (by decide) (by decide)).symm rfl
                    exact L147_4 _ 0 mL3 hmL3 hfL3 (by omega) (by omega) pA pD (fun x h0 h1 => by omega) rfl
              exact L141_3 _ (n - 1) mL2 hmL2 hfL2 (by omega) (by omega) p0 d0 rfl
            · intro kk46
              refine g_iconst rfl ?_
              refine g_istore_n (n := 3) (lo' := [(2, vI t_2), (0, vR 61), (1, vI n)]) rfl rfl ?_
              have L54_6 : ∀ (n54_6 : Nat) (b_6 : Int) (mL6 : kM), (kI mL6) → (fr [] [74, 75] m mL6) → (0 ≤ b_6 ∧ b_6 ≤ 6) → (b_6 ≤ m.1 25) → (∀ j x : Int, 0 ≤ j → j ≤ t_2 → 0 ≤ x → x < m.1 25 → mL6.2.1 74 (6 * j + x) = nwr (dWT m (Int.toNat j) x)) → (∀ x : Int, 0 ≤ x → x < b_6 → mL6.2.1 74 (6 * t_2 + 6 + x) = nwr (dWT m (Int.toNat (t_2 + 1)) x)) → (∀ x : Int, 0 ≤ x → x < 6 → mL6.2.1 75 (6 * n + x) = 1) → ((6 - b_6).toNat) = n54_6 → cg_G V mX10_layNight d q (R_V (fun m' => (kI m') ∧ (fr [] [74, 75] m m') ∧ (∀ j x : Int, 0 ≤ j → j ≤ n → 0 ≤ x → x < m.1 25 → m'.2.1 74 (6 * j + x) = nwr (dWT m (Int.toNat j) x)) ∧ (∀ j x : Int, 0 ≤ j → j ≤ n → 0 ≤ x → x < m.1 25 → m'.2.1 75 (6 * j + x) = nwr (dWO m n (Int.toNat (n - j)) x)))) 54 [(3, vI b_6), (2, vI t_2), (0, vR 61), (1, vI n)] [] (kl mL6) 0 0 := by
                intro n54_6
                induction n54_6 using Nat.strongRecOn with
                | _ n54_6 ih54_6 =>
                  intro b_6 mL6 hmL6 hfL6 i47 iL iA2 iC iB2 q48
                  refine g_iload_n (n := 3) rfl rfl ?_
                  refine g_aload_n (n := 0) rfl rfl ?_
                  have h49 : 2 ≤ mL6.1 25 ∧ mL6.1 25 ≤ 6 := hmL6.1 25
                  have h50 : mL6.1 25 = m.1 25 := hfL6.1 25 rfl
                  refine g_getf (v := vI (mL6.1 25)) rfl (kl_61 _) rfl ?_
                  refine g_icmp_ge (by omega) (by omega) (by omega) (by omega) rfl ?_ ?_
                  · intro kk51
                    have oAn : ∀ j x : Int, 0 ≤ j → j ≤ t_2 + 1 → 0 ≤ x → x < m.1 25 → mL6.2.1 74 (6 * j + x) = nwr (dWT m (Int.toNat j) x) := by
                      intro j x a b c d
                      by_cases q : j = t_2 + 1
                      · rw [q, show 6 * (t_2 + 1) + x = 6 * t_2 + 6 + x by omega]; exact iC x c (by omega)
                      · exact iA2 j x a (by omega) c d
                    refine g_iinc (n := 2) (lo' := [(3, vI b_6), (0, vR 61), (1, vI n)]) rfl rfl rfl ?_
                    refine g_goto rfl ?_
                    refine g_pick (lo' := [(2, vI (t_2 + 1)), (0, vR 61), (1, vI n)]) [0, 2, 3] rfl ?_
                    exact ih47_2 _ (by omega) (t_2 + 1) mL6 hmL6 hfL6 (by omega) (by omega) oAn iB2 rfl
                  · intro kk52
                    refine g_lconst (x := 0) (by decide) rfl ?_
                    refine g_lstore (n := 4) (lo' := [(3, vI b_6), (2, vI t_2), (0, vR 61), (1, vI n)]) rfl rfl ?_
                    refine g_iconst rfl ?_
                    refine g_istore (n := 6) (lo' := [(4, vL 0), (3, vI b_6), (2, vI t_2), (0, vR 61), (1, vI n)]) rfl rfl ?_
                    have L68_7 : ∀ (n68_7 : Nat) (s_7 : Int) (a_7 : Int), ((-9223372036854775808) ≤ s_7 ∧ s_7 ≤ 9223372036854775807) → (0 ≤ a_7 ∧ a_7 ≤ 6) → (a_7 ≤ m.1 25) → (s_7 = nwr (nsm (fun a => dWT m (Int.toNat t_2) a * npl (dRA m) t_2 a b_6 (Int.toNat (m.1 26) + 1)) (Int.toNat a_7))) → ((6 - a_7).toNat) = n68_7 → cg_G V mX10_layNight d q (R_V (fun m' => (kI m') ∧ (fr [] [74, 75] m m') ∧ (∀ j x : Int, 0 ≤ j → j ≤ n → 0 ≤ x → x < m.1 25 → m'.2.1 74 (6 * j + x) = nwr (dWT m (Int.toNat j) x)) ∧ (∀ j x : Int, 0 ≤ j → j ≤ n → 0 ≤ x → x < m.1 25 → m'.2.1 75 (6 * j + x) = nwr (dWO m n (Int.toNat (n - j)) x)))) 68 [(6, vI a_7), (4, vL s_7), (3, vI b_6), (2, vI t_2), (0, vR 61), (1, vI n)] [] (kl mL6) 0 0 := by
                      intro n68_7
                      induction n68_7 using Nat.strongRecOn with
                      | _ n68_7 ih68_7 =>
                        intro s_7 a_7 i53 i54 iG iS q55
                        refine g_iload (n := 6) rfl rfl ?_
                        refine g_aload_n (n := 0) rfl rfl ?_
                        refine g_getf (v := vI (mL6.1 25)) rfl (kl_61 _) rfl ?_
                        refine g_icmp_ge (by omega) (by omega) (by omega) (by omega) rfl ?_ ?_
                        · intro kk56
                          refine g_aload_n (n := 0) rfl rfl ?_
                          refine g_getf (v := vR 74) rfl (kl_61 _) rfl ?_
                          refine g_bipush (by decide) rfl ?_
                          refine g_iload_n (n := 2) rfl rfl ?_
                          refine g_imul rfl ?_
                          refine g_bipush (by decide) rfl ?_
                          refine g_iadd rfl ?_
                          refine g_iload_n (n := 3) rfl rfl ?_
                          refine g_iadd rfl ?_
                          refine g_lload (n := 4) rfl rfl ?_
                          refine g_lAst (f := mL6.2.1 74) (m' := (kA mL6 74 (up (mL6.2.1 74) (((6 * t_2) + 6) + b_6) s_7))) rfl (kl_74 _) (by decide) (by omega) (by omega) (kA_74 _ _) ?_
                          have hm57 : kI (kA mL6 74 (up (mL6.2.1 74) (((6 * t_2) + 6) + b_6) s_7)) := kI_U hmL6 74 rfl (show ((-9223372036854775808) : Int) ≤ s_7 by omega) (show s_7 ≤ (9223372036854775807 : Int) by omega)
                          have hf58 : fr [] [74, 75] m (kA mL6 74 (up (mL6.2.1 74) (((6 * t_2) + 6) + b_6) s_7)) := fr_A hfL6 74 _ rfl
                          have cN : ∀ x : Int, 0 ≤ x → x < b_6 + 1 → (kA mL6 74 (up (mL6.2.1 74) (((6 * t_2) + 6) + b_6) s_7)).2.1 74 (6 * t_2 + 6 + x) = nwr (dWT m (Int.toNat (t_2 + 1)) x) := by
                            intro x h0 h1
                            show up (mL6.2.1 74) (((6 * t_2) + 6) + b_6) s_7 (6 * t_2 + 6 + x) = _
                            by_cases q : x = b_6
                            · rw [q, dWT_s (show 0 ≤ t_2 by omega)]; exact (up_same _ _ _).trans (by rw [iS, show Int.toNat a_7 = Int.toNat (m.1 25) by omega])
                            · rw [up_ne _ (by omega)]; exact iC x h0 (by omega)
                          have aN2 : ∀ j x : Int, 0 ≤ j → j ≤ t_2 → 0 ≤ x → x < m.1 25 → (kA mL6 74 (up (mL6.2.1 74) (((6 * t_2) + 6) + b_6) s_7)).2.1 74 (6 * j + x) = nwr (dWT m (Int.toNat j) x) := by
                            intro j x a b c d
                            show up (mL6.2.1 74) (((6 * t_2) + 6) + b_6) s_7 (6 * j + x) = _
                            rw [up_ne _ (by omega)]; exact iA2 j x a b c d
                          have bN2 : ∀ x : Int, 0 ≤ x → x < 6 → (kA mL6 74 (up (mL6.2.1 74) (((6 * t_2) + 6) + b_6) s_7)).2.1 75 (6 * n + x) = 1 := fun x c d => iB2 x c d
                          refine g_iinc (n := 3) (lo' := [(6, vI a_7), (4, vL s_7), (2, vI t_2), (0, vR 61), (1, vI n)]) rfl rfl rfl ?_
                          refine g_goto rfl ?_
                          refine g_pick (lo' := [(3, vI (b_6 + 1)), (2, vI t_2), (0, vR 61), (1, vI n)]) [0, 3, 4, 5] rfl ?_
                          exact ih54_6 _ (by omega) (b_6 + 1) (kA mL6 74 (up (mL6.2.1 74) (((6 * t_2) + 6) + b_6) s_7)) hm57 hf58 (by omega) (by omega) aN2 cN bN2 rfl
                        · intro kk59
                          refine g_lload (n := 4) rfl rfl ?_
                          refine g_aload_n (n := 0) rfl rfl ?_
                          refine g_getf (v := vR 74) rfl (kl_61 _) rfl ?_
                          refine g_bipush (by decide) rfl ?_
                          refine g_iload_n (n := 2) rfl rfl ?_
                          refine g_imul rfl ?_
                          refine g_iload (n := 6) rfl rfl ?_
                          refine g_iadd rfl ?_
                          have h60 : (-9223372036854775808) ≤ mL6.2.1 74 ((6 * t_2) + a_7) ∧ mL6.2.1 74 ((6 * t_2) + a_7) ≤ 9223372036854775807 := hmL6.2 74 ((6 * t_2) + a_7) (by omega) (show ((6 * t_2) + a_7) < (66 : Int) by omega)
                          refine g_lald (f := mL6.2.1 74) rfl (kl_74 _) (by decide) (by omega) (by omega) ?_
                          refine g_aload_n (n := 0) rfl rfl ?_
                          refine g_iload_n (n := 2) rfl rfl ?_
                          refine g_iload (n := 6) rfl rfl ?_
                          refine g_iload_n (n := 3) rfl rfl ?_
                          have h61 : 0 ≤ mL6.1 26 ∧ mL6.1 26 ≤ 10 := hmL6.1 26
                          have h62 : mL6.1 26 = m.1 26 := hfL6.1 26 rfl
                          refine c_vL (i := 61) (ps := [vI b_6, vI a_7, vI t_2]) (r := [vL (mL6.2.1 74 ((6 * t_2) + a_7)), vL s_7]) (as := [vR 61, vI t_2, vI a_7, vI b_6]) (cs' := 0) (sl' := 0) rfl rfl rfl rfl rfl rfl (kl_61 _) (d_leads (d := d - 1) (q := q - (9 + 19)) (by omega) (by omega) hmL6 (t := t_2) (a := a_7) (b := b_6) (show (-2147483648) ≤ t_2 ∧ t_2 ≤ 2147483647 by omega) (show 0 ≤ a_7 ∧ a_7 ≤ 5 by omega) (show 0 ≤ b_6 ∧ b_6 ≤ 5 by omega) (fun e a b => by rw [hfL6.2.1 66 rfl]; exact hK e a (by have := hfL6.1 26 rfl; omega))) (by omega) (show 9 + 19 ≤ q by omega) (Nat.le_of_ble_eq_true rfl) (Nat.le_of_ble_eq_true rfl) rfl rfl rfl ?_
                          rintro z63 m64 ⟨rfl, p66, p67, p68, p69, p70⟩
                          refine g_lmul rfl ?_
                          refine g_nrmL ?_
                          intro z71 h72 h73 h74 h75
                          refine g_ladd rfl ?_
                          refine g_nrmL ?_
                          intro z76 h77 h78 h79 h80
                          have eD : dRA mL6 = dRA m := dRA_of (hfL6.1 26 rfl) (hfL6.1 39 rfl) (hfL6.2.1 66 rfl) (hfL6.2.1 73 rfl)
                          have eL := p70
                          rw [eD, hfL6.1 26 rfl] at eL
                          have eA : mL6.2.1 74 (6 * t_2 + a_7) = nwr (dWT m (Int.toNat t_2) a_7) := iA2 t_2 a_7 (by omega) (by omega) (by omega) (by omega)
                          have eP : z71 = nwr (dWT m (Int.toNat t_2) a_7 * npl (dRA m) t_2 a_7 b_6 (Int.toNat (m.1 26) + 1)) := by rw [← nwr_mul, ← eA, ← eL, nwr_id (x := z63) (by omega) (by omega)]; exact h75
                          have sN : z76 = nwr (nsm (fun a => dWT m (Int.toNat t_2) a * npl (dRA m) t_2 a b_6 (Int.toNat (m.1 26) + 1)) (Int.toNat (a_7 + 1))) := nsm_st (h := (fun a => dWT m (Int.toNat t_2) a * npl (dRA m) t_2 a b_6 (Int.toNat (m.1 26) + 1))) (by omega) iS eP h80
                          refine g_lstore (n := 4) (lo' := [(6, vI a_7), (3, vI b_6), (2, vI t_2), (0, vR 61), (1, vI n)]) rfl rfl ?_
                          refine g_iinc (n := 6) (lo' := [(4, vL z76), (3, vI b_6), (2, vI t_2), (0, vR 61), (1, vI n)]) rfl rfl rfl ?_
                          refine g_goto rfl ?_
                          exact ih68_7 _ (by omega) z76 (a_7 + 1) (by omega) (by omega) (by omega) sN rfl
                    exact L68_7 _ 0 0 (by omega) (by omega) (by omega) (nwr_id (by decide) (by decide)).symm rfl
              exact L54_6 _ 0 mL2 hmL2 hfL2 (by omega) (by omega) oA (fun x h0 h1 => by omega) oB rfl
        exact L47_2 _ 0 mL1 hmL1 hfL1 (by omega) (by omega) a0 b0 rfl
      · intro kk81
        refine g_aload_n (n := 0) rfl rfl ?_
        refine g_getf (v := vR 74) rfl (kl_61 _) rfl ?_
        refine g_iload_n (n := 2) rfl rfl ?_
        refine g_iload_n (n := 2) rfl rfl ?_
        refine g_aload_n (n := 0) rfl rfl ?_
        have h82 : 0 ≤ mL1.1 30 ∧ mL1.1 30 ≤ 5 := hmL1.1 30
        have h83 : mL1.1 30 = m.1 30 := hfL1.1 30 rfl
        refine g_getf (v := vI (mL1.1 30)) rfl (kl_61 _) rfl ?_
        refine g_icmp_ne (by omega) (by omega) (by omega) (by omega) rfl ?_ ?_
        · intro kk84
          refine g_lconst (x := 0) (by decide) rfl ?_
          refine g_lAst (f := mL1.2.1 74) (m' := (kA mL1 74 (up (mL1.2.1 74) r_1 0))) rfl (kl_74 _) (by decide) (by omega) (by omega) (kA_74 _ _) ?_
          have hm85 : kI (kA mL1 74 (up (mL1.2.1 74) r_1 0)) := kI_U hmL1 74 rfl (show ((-9223372036854775808) : Int) ≤ 0 by omega) (show 0 ≤ (9223372036854775807 : Int) by omega)
          have hf86 : fr [] [74, 75] m (kA mL1 74 (up (mL1.2.1 74) r_1 0)) := fr_A hfL1 74 _ rfl
          refine g_aload_n (n := 0) rfl rfl ?_
          refine g_getf (v := vR 75) rfl (kl_61 _) rfl ?_
          refine g_bipush (by decide) rfl ?_
          refine g_iload_n (n := 1) rfl rfl ?_
          refine g_imul rfl ?_
          refine g_iload_n (n := 2) rfl rfl ?_
          refine g_iadd rfl ?_
          refine g_lconst (x := 1) (by decide) rfl ?_
          refine g_lAst (f := mL1.2.1 75) (m' := (kA (kA mL1 74 (up (mL1.2.1 74) r_1 0)) 75 (up (mL1.2.1 75) ((6 * n) + r_1) 1))) rfl (kl_75 _) (by decide) (by omega) (by omega) (kA_75 _ _) ?_
          have hm87 : kI (kA (kA mL1 74 (up (mL1.2.1 74) r_1 0)) 75 (up (mL1.2.1 75) ((6 * n) + r_1) 1)) := kI_U hm85 75 rfl (show ((-9223372036854775808) : Int) ≤ 1 by omega) (show 1 ≤ (9223372036854775807 : Int) by omega)
          have hf88 : fr [] [74, 75] m (kA (kA mL1 74 (up (mL1.2.1 74) r_1 0)) 75 (up (mL1.2.1 75) ((6 * n) + r_1) 1)) := fr_A hf86 75 _ rfl
          have aN : ∀ x : Int, 0 ≤ x → x < r_1 + 1 → (kA (kA mL1 74 (up (mL1.2.1 74) r_1 0)) 75 (up (mL1.2.1 75) ((6 * n) + r_1) 1)).2.1 74 x = nwr (dWT m 0 x) := by
            intro x h0 h1
            show up (mL1.2.1 74) r_1 0 x = _
            by_cases q : x = r_1
            · rw [q, up_same]; show _ = nwr (if r_1 = m.1 30 then 1 else 0); rw [if_neg (by omega)]; exact (nwr_id (by decide) (by decide)).symm
            · rw [up_ne _ q]; exact iA x h0 (by omega)
          have bN : ∀ x : Int, 0 ≤ x → x < r_1 + 1 → (kA (kA mL1 74 (up (mL1.2.1 74) r_1 0)) 75 (up (mL1.2.1 75) ((6 * n) + r_1) 1)).2.1 75 (6 * n + x) = 1 := by
            intro x h0 h1
            show up (mL1.2.1 75) ((6 * n) + r_1) 1 (6 * n + x) = 1
            by_cases q : x = r_1
            · rw [q]; exact up_same _ _ _
            · rw [up_ne _ (by omega)]; exact iB x h0 (by omega)
          refine g_iinc (n := 2) (lo' := [(0, vR 61), (1, vI n)]) rfl rfl rfl ?_
          refine g_goto rfl ?_
          exact ih2_1 _ (by omega) (r_1 + 1) (kA (kA mL1 74 (up (mL1.2.1 74) r_1 0)) 75 (up (mL1.2.1 75) ((6 * n) + r_1) 1)) hm87 hf88 (by omega) aN bN rfl
        · intro kk89
          refine g_lconst (x := 1) (by decide) rfl ?_
          refine g_goto rfl ?_
          refine g_lAst (f := mL1.2.1 74) (m' := (kA mL1 74 (up (mL1.2.1 74) r_1 1))) rfl (kl_74 _) (by decide) (by omega) (by omega) (kA_74 _ _) ?_
          have hm90 : kI (kA mL1 74 (up (mL1.2.1 74) r_1 1)) := kI_U hmL1 74 rfl (show ((-9223372036854775808) : Int) ≤ 1 by omega) (show 1 ≤ (9223372036854775807 : Int) by omega)
          have hf91 : fr [] [74, 75] m (kA mL1 74 (up (mL1.2.1 74) r_1 1)) := fr_A hfL1 74 _ rfl
          refine g_aload_n (n := 0) rfl rfl ?_
          refine g_getf (v := vR 75) rfl (kl_61 _) rfl ?_
          refine g_bipush (by decide) rfl ?_
          refine g_iload_n (n := 1) rfl rfl ?_
          refine g_imul rfl ?_
          refine g_iload_n (n := 2) rfl rfl ?_
          refine g_iadd rfl ?_
          refine g_lconst (x := 1) (by decide) rfl ?_
          refine g_lAst (f := mL1.2.1 75) (m' := (kA (kA mL1 74 (up (mL1.2.1 74) r_1 1)) 75 (up (mL1.2.1 75) ((6 * n) + r_1) 1))) rfl (kl_75 _) (by decide) (by omega) (by omega) (kA_75 _ _) ?_
          have hm92 : kI (kA (kA mL1 74 (up (mL1.2.1 74) r_1 1)) 75 (up (mL1.2.1 75) ((6 * n) + r_1) 1)) := kI_U hm90 75 rfl (show ((-9223372036854775808) : Int) ≤ 1 by omega) (show 1 ≤ (9223372036854775807 : Int) by omega)
          have hf93 : fr [] [74, 75] m (kA (kA mL1 74 (up (mL1.2.1 74) r_1 1)) 75 (up (mL1.2.1 75) ((6 * n) + r_1) 1)) := fr_A hf91 75 _ rfl
          have aN : ∀ x : Int, 0 ≤ x → x < r_1 + 1 → (kA (kA mL1 74 (up (mL1.2.1 74) r_1 1)) 75 (up (mL1.2.1 75) ((6 * n) + r_1) 1)).2.1 74 x = nwr (dWT m 0 x) := by
            intro x h0 h1
            show up (mL1.2.1 74) r_1 1 x = _
            by_cases q : x = r_1
            · rw [q, up_same]; show _ = nwr (if r_1 = m.1 30 then 1 else 0); rw [if_pos (by omega)]; exact (nwr_id (by decide) (by decide)).symm
            · rw [up_ne _ q]; exact iA x h0 (by omega)
          have bN : ∀ x : Int, 0 ≤ x → x < r_1 + 1 → (kA (kA mL1 74 (up (mL1.2.1 74) r_1 1)) 75 (up (mL1.2.1 75) ((6 * n) + r_1) 1)).2.1 75 (6 * n + x) = 1 := by
            intro x h0 h1
            show up (mL1.2.1 75) ((6 * n) + r_1) 1 (6 * n + x) = 1
            by_cases q : x = r_1
            · rw [q]; exact up_same _ _ _
            · rw [up_ne _ (by omega)]; exact iB x h0 (by omega)
          refine g_iinc (n := 2) (lo' := [(0, vR 61), (1, vI n)]) rfl rfl rfl ?_
          refine g_goto rfl ?_
          exact ih2_1 _ (by omega) (r_1 + 1) (kA (kA mL1 74 (up (mL1.2.1 74) r_1 1)) 75 (up (mL1.2.1 75) ((6 * n) + r_1) 1)) hm92 hf93 (by omega) aN bN rfl
  exact L2_1 _ 0 m hm hf0 (by omega) (fun x h0 h1 => by omega) (fun x h0 h1 => by omega) rfl
theorem d_night {V : cg_V} {d q : Nat} (hd : 3 ≤ d) (hq : 78 ≤ q) {m : kM} (hm : kI m) {n w : Int} (h_n : (-2147483648) ≤ n ∧ n ≤ 2147483647) (h_w : (-2147483648) ≤ w ∧ w ≤ 2147483647) (hK : ∀ e : Int, 0 ≤ e → e < m.1 26 → m.2.1 66 (4 * e) ≠ m.2.1 66 (4 * e + 1)) : cg_S V d q mX10_night [vR 61, vI n, vI w] (kl m) (R_J (fun z m' => (kI m') ∧ (fr [] [74, 75] m m') ∧ (-9223372036854775808 ≤ z) ∧ (z < 9223372036854775808) ∧ (DNZ m n w z))) := by
  have hf0 : fr [] [74, 75] m m := fr_rf m
  refine cg_of (List.mem_of_getElem? (show ae_MT[184]? = some mX10_night from rfl)) (Nat.le_of_ble_eq_true rfl) ?_
  show cg_G V mX10_night d q _ 0 [(0, vR 61), (1, vI n), (2, vI w)] [] (kl m) 0 0
  have hR : 2 ≤ m.1 25 ∧ m.1 25 ≤ 6 := hm.1 25
  refine g_iload_n (n := 1) rfl rfl ?_
  refine c_sI (ps := [vI n]) (r := []) (as := [vI n]) (cs' := 0) (sl' := 0) rfl rfl rfl rfl rfl rfl (d_isNight (d := d - 1) (q := q - (1 + 19)) (by omega) (by omega) hm (a := n) (show (-2147483648) ≤ n ∧ n ≤ 2147483647 by omega)) (by omega) (show 1 + 19 ≤ q by omega) (Nat.le_of_ble_eq_true rfl) (Nat.le_of_ble_eq_true rfl) rfl rfl rfl ?_
  rintro z1 m2 ⟨rfl, p4⟩
  refine g_if_eq (by omega) (by omega) rfl ?_ ?_
  · intro kk5
    refine g_ldc2 (x := (-3)) (by decide) rfl ?_
    refine g_lret rfl rfl ?_
    exact ⟨_, _, rfl, hm, hf0, by omega, by omega, Or.inl ⟨by omega, rfl⟩⟩
  · intro kk6
    refine g_iload_n (n := 2) rfl rfl ?_
    refine g_i2l (by omega) (by omega) rfl ?_
    refine g_lconst (x := 0) (by decide) rfl ?_
    refine g_lconst (x := 1) (by decide) rfl ?_
    refine c_sI (ps := [vL 1, vL 0, vL w]) (r := []) (as := [vL w, vL 0, vL 1]) (cs' := 0) (sl' := 0) rfl rfl rfl rfl rfl rfl (d_in (d := d - 1) (q := q - (6 + 19)) (by omega) (by omega) hm (a := w) (b := 0) (c := 1) (show (-9223372036854775808) ≤ w ∧ w ≤ 9223372036854775807 by omega) (show (-9223372036854775808) ≤ 0 ∧ 0 ≤ 9223372036854775807 by omega) (show (-9223372036854775808) ≤ 1 ∧ 1 ≤ 9223372036854775807 by omega)) (by omega) (show 6 + 19 ≤ q by omega) (Nat.le_of_ble_eq_true rfl) (Nat.le_of_ble_eq_true rfl) rfl rfl rfl ?_
    rintro z7 m8 ⟨rfl, p10⟩
    refine g_if_ne (by omega) (by omega) rfl ?_ ?_
    · intro kk11
      refine g_aload_n (n := 0) rfl rfl ?_
      refine g_iload_n (n := 1) rfl rfl ?_
      have h12 : 2 ≤ m.1 25 ∧ m.1 25 ≤ 6 := hm.1 25
      refine c_vV (i := 61) (ps := [vI n]) (r := []) (as := [vR 61, vI n]) (cs' := 0) (sl' := 0) rfl rfl rfl rfl rfl rfl (kl_61 _) (d_layNight (d := d - 1) (q := q - (7 + 19)) (by omega) (by omega) hm (n := n) (show 1 ≤ n ∧ n ≤ 10 by omega) hK) (by omega) (show 7 + 19 ≤ q by omega) (Nat.le_of_ble_eq_true rfl) (Nat.le_of_ble_eq_true rfl) rfl rfl rfl ?_
      rintro m14 ⟨hm16, hc17, p18, p19⟩
      have hf20 : fr [] [74, 75] m m14 := fr_tr hf0 (fr_le hc17 rfl rfl)
      have h21 : m14.1 25 = m.1 25 := hc17.1 25 rfl
      have h22 : 2 ≤ m14.1 25 ∧ m14.1 25 ≤ 6 := hm16.1 25
      refine g_lconst (x := 0) (by decide) rfl ?_
      refine g_lstore_n (n := 3) (lo' := [(0, vR 61), (1, vI n), (2, vI w)]) rfl rfl ?_
      refine g_iconst rfl ?_
      refine g_istore (n := 5) (lo' := [(3, vL 0), (0, vR 61), (1, vI n), (2, vI w)]) rfl rfl ?_
      refine g_iconst rfl ?_
      refine g_istore (n := 6) (lo' := [(5, vI 0), (3, vL 0), (0, vR 61), (1, vI n), (2, vI w)]) rfl rfl ?_
      have L34_1 : ∀ (n34_1 : Nat) (s_1 : Int) (b_1 : Int) (r_1 : Int), ((-9223372036854775808) ≤ s_1 ∧ s_1 ≤ 9223372036854775807) → (0 ≤ b_1 ∧ b_1 ≤ 63) → (0 ≤ r_1 ∧ r_1 ≤ 6) → (r_1 ≤ m.1 25) → (s_1 = nwr (nsm (dWT m (Int.toNat n)) (Int.toNat r_1))) → (b_1 = nbt (fun x => nwr (dWT m (Int.toNat n) x)) (Int.toNat r_1)) → ((6 - r_1).toNat) = n34_1 → cg_G V mX10_night d q (R_J (fun z m' => (kI m') ∧ (fr [] [74, 75] m m') ∧ (-9223372036854775808 ≤ z) ∧ (z < 9223372036854775808) ∧ (DNZ m n w z))) 34 [(6, vI r_1), (5, vI b_1), (3, vL s_1), (0, vR 61), (1, vI n), (2, vI w)] [] (kl m14) 0 0 := by
        intro n34_1
        induction n34_1 using Nat.strongRecOn with
        | _ n34_1 ih34_1 =>
          intro s_1 b_1 r_1 i23 i24 i25 iR iS iB q26
          refine g_iload (n := 6) rfl rfl ?_
          refine g_aload_n (n := 0) rfl rfl ?_
          refine g_getf (v := vI (m14.1 25)) rfl (kl_61 _) rfl ?_
          refine g_icmp_ge (by omega) (by omega) (by omega) (by omega) rfl ?_ ?_
          · intro kk27
            refine g_iload_n (n := 2) rfl rfl ?_
            refine g_if_ne (by omega) (by omega) rfl ?_ ?_
            · intro kk28
              refine g_iload (n := 5) rfl rfl ?_
              refine g_i2l (by omega) (by omega) rfl ?_
              refine g_lret rfl rfl ?_
              exact ⟨_, _, rfl, hm16, hf20, by omega, by omega, Or.inr (Or.inr ⟨by omega, by omega, by omega, (by rw [iB, show Int.toNat r_1 = Int.toNat (m.1 25) by omega])⟩)⟩
            · intro kk29
              refine g_lload_n (n := 3) rfl rfl ?_
              refine g_goto rfl ?_
              refine g_lret rfl rfl ?_
              exact ⟨_, _, rfl, hm16, hf20, by omega, by omega, Or.inr (Or.inl ⟨by omega, by omega, by omega, (by rw [iS, show Int.toNat r_1 = Int.toNat (m.1 25) by omega])⟩)⟩
          · intro kk30
            refine g_lload_n (n := 3) rfl rfl ?_
            refine g_aload_n (n := 0) rfl rfl ?_
            refine g_getf (v := vR 74) rfl (kl_61 _) rfl ?_
            refine g_bipush (by decide) rfl ?_
            refine g_iload_n (n := 1) rfl rfl ?_
            refine g_imul rfl ?_
            refine g_nrm ?_
            intro z31 h32 h33 h34 h35
            refine g_iload (n := 6) rfl rfl ?_
            refine g_iadd rfl ?_
            refine g_nrm ?_
            intro z36 h37 h38 h39 h40
            have h41 : (-9223372036854775808) ≤ m14.2.1 74 z36 ∧ m14.2.1 74 z36 ≤ 9223372036854775807 := hm16.2 74 z36 (by omega) (show z36 < (66 : Int) by omega)
            refine g_lald (f := m14.2.1 74) rfl (kl_74 _) (by decide) (by omega) (by omega) ?_
            have wN : m14.2.1 74 z36 = nwr (dWT m (Int.toNat n) r_1) := by rw [show z36 = 6 * n + r_1 by omega]; exact p18 n r_1 (by omega) (by omega) (by omega) (by omega)
            refine g_ladd rfl ?_
            refine g_nrmL ?_
            intro z42 h43 h44 h45 h46
            have sN : z42 = nwr (nsm (dWT m (Int.toNat n)) (Int.toNat (r_1 + 1))) := nsm_st (by omega) iS wN h46
            refine g_lstore_n (n := 3) (lo' := [(6, vI r_1), (5, vI b_1), (0, vR 61), (1, vI n), (2, vI w)]) rfl rfl ?_
            refine g_iload (n := 5) rfl rfl ?_
            refine g_aload_n (n := 0) rfl rfl ?_
            refine g_getf (v := vR 74) rfl (kl_61 _) rfl ?_
            refine g_bipush (by decide) rfl ?_
            refine g_iload_n (n := 1) rfl rfl ?_
            refine g_imul rfl ?_
            refine g_nrm ?_
            intro z47 h48 h49 h50 h51
            refine g_iload (n := 6) rfl rfl ?_
            refine g_iadd rfl ?_
            refine g_nrm ?_
            intro z52 h53 h54 h55 h56
            have h57 : (-9223372036854775808) ≤ m14.2.1 74 z52 ∧ m14.2.1 74 z52 ≤ 9223372036854775807 := hm16.2 74 z52 (by omega) (show z52 < (66 : Int) by omega)
            refine g_lald (f := m14.2.1 74) rfl (kl_74 _) (by decide) (by omega) (by omega) ?_
            have wN2 : m14.2.1 74 z52 = nwr (dWT m (Int.toNat n) r_1) := by rw [show z52 = 6 * n + r_1 by omega]; exact p18 n r_1 (by omega) (by omega) (by omega) (by omega)
            refine g_lconst (x := 0) (by decide) rfl ?_
            refine g_lcmp (by omega) (by omega) (by decide) (by decide) rfl ?_
            intro z58 h59
            refine g_if_le (by omega) (by omega) rfl ?_ ?_
            · intro kk60
              refine g_iconst rfl ?_
              refine g_ior rfl ?_
              intro z61 h62 h63 h64
              have h65 : z61 = b_1 := b_or0 h62 (by omega) (by omega)
              refine g_istore (n := 5) (lo' := [(3, vL z42), (6, vI r_1), (0, vR 61), (1, vI n), (2, vI w)]) rfl rfl ?_
              have bN : z61 = nbt (fun x => nwr (dWT m (Int.toNat n) x)) (Int.toNat (r_1 + 1)) := h65.trans (nbt_neg (h := (fun x => nwr (dWT m (Int.toNat n) x))) (by omega) iB (by show ¬ 0 < nwr (dWT m (Int.toNat n) r_1); rw [← wN2]; omega))
              refine g_iinc (n := 6) (lo' := [(5, vI z61), (3, vL z42), (0, vR 61), (1, vI n), (2, vI w)]) rfl rfl rfl ?_
              refine g_goto rfl ?_
              exact ih34_1 _ (by omega) z42 z61 (r_1 + 1) (by omega) (by omega) (by omega) (by omega) sN bN rfl
            · intro kk66
              refine g_iconst rfl ?_
              refine g_iload (n := 6) rfl rfl ?_
              refine g_ishl rfl ?_
              intro z67 h68 h69 h70
              refine g_goto rfl ?_
              refine g_ior rfl ?_
              intro z72 h73 h74 h75
              have h76 : z72 = stb b_1 r_1 := b_stb h68 h73 (by omega) (by omega) (by omega) (by omega)
              have h77 := b_stb_rng (u := b_1) (r := r_1) (by omega) (by omega) (by omega) (by omega)
              refine g_istore (n := 5) (lo' := [(3, vL z42), (6, vI r_1), (0, vR 61), (1, vI n), (2, vI w)]) rfl rfl ?_
              have bN : z72 = nbt (fun x => nwr (dWT m (Int.toNat n) x)) (Int.toNat (r_1 + 1)) := nbt_pos (h := (fun x => nwr (dWT m (Int.toNat n) x))) (by omega) iB (by show 0 < nwr (dWT m (Int.toNat n) r_1); rw [← wN2]; omega) h76
              refine g_iinc (n := 6) (lo' := [(5, vI z72), (3, vL z42), (0, vR 61), (1, vI n), (2, vI w)]) rfl rfl rfl ?_
              refine g_goto rfl ?_
              exact ih34_1 _ (by omega) z42 z72 (r_1 + 1) (by omega) (by omega) (by omega) (by omega) sN bN rfl
      exact L34_1 _ 0 0 0 (by omega) (by omega) (by omega) (by omega) (nwr_id (by decide) (by decide)).symm rfl rfl
    · intro kk78
      refine g_ldc2 (x := (-3)) (by decide) rfl ?_
      refine g_lret rfl rfl ?_
      exact ⟨_, _, rfl, hm, hf0, by omega, by omega, Or.inl ⟨by omega, rfl⟩⟩
theorem d_ask {V : cg_V} {d q : Nat} (hd : 3 ≤ d) (hq : 78 ≤ q) {m : kM} (hm : kI m) {n : Int} (h_n : (-2147483648) ≤ n ∧ n ≤ 2147483647) (hK : ∀ e : Int, 0 ≤ e → e < m.1 26 → m.2.1 66 (4 * e) ≠ m.2.1 66 (4 * e + 1)) : cg_S V d q mX10_ask [vR 61, vI n] (kl m) (R_I (fun z m' => (kI m') ∧ (fr [] [74, 75] m m') ∧ (-3 ≤ z) ∧ (z ≤ 9) ∧ (DAZ m n z))) := by
  have hf0 : fr [] [74, 75] m m := fr_rf m
  refine cg_of (List.mem_of_getElem? (show ae_MT[185]? = some mX10_ask from rfl)) (Nat.le_of_ble_eq_true rfl) ?_
  show cg_G V mX10_ask d q _ 0 [(0, vR 61), (1, vI n)] [] (kl m) 0 0
  have hR : 2 ≤ m.1 25 ∧ m.1 25 ≤ 6 := hm.1 25
  refine g_iload_n (n := 1) rfl rfl ?_
  refine c_sI (ps := [vI n]) (r := []) (as := [vI n]) (cs' := 0) (sl' := 0) rfl rfl rfl rfl rfl rfl (d_isNight (d := d - 1) (q := q - (1 + 19)) (by omega) (by omega) hm (a := n) (show (-2147483648) ≤ n ∧ n ≤ 2147483647 by omega)) (by omega) (show 1 + 19 ≤ q by omega) (Nat.le_of_ble_eq_true rfl) (Nat.le_of_ble_eq_true rfl) rfl rfl rfl ?_
  rintro z1 m2 ⟨rfl, p4⟩
  refine g_if_ne (by omega) (by omega) rfl ?_ ?_
  · intro kk5
    refine g_aload_n (n := 0) rfl rfl ?_
    refine g_iload_n (n := 1) rfl rfl ?_
    have h6 : 2 ≤ m.1 25 ∧ m.1 25 ≤ 6 := hm.1 25
    refine c_vV (i := 61) (ps := [vI n]) (r := []) (as := [vR 61, vI n]) (cs' := 0) (sl' := 0) rfl rfl rfl rfl rfl rfl (kl_61 _) (d_layNight (d := d - 1) (q := q - (7 + 19)) (by omega) (by omega) hm (n := n) (show 1 ≤ n ∧ n ≤ 10 by omega) hK) (by omega) (show 7 + 19 ≤ q by omega) (Nat.le_of_ble_eq_true rfl) (Nat.le_of_ble_eq_true rfl) rfl rfl rfl ?_
    rintro m8 ⟨hm10, hc11, p12, p13⟩
    have hf14 : fr [] [74, 75] m m8 := fr_tr hf0 (fr_le hc11 rfl rfl)
    have h15 : m8.1 25 = m.1 25 := hc11.1 25 rfl
    have h16 : 2 ≤ m8.1 25 ∧ m8.1 25 ≤ 6 := hm10.1 25
    refine g_iconst rfl ?_
    refine g_istore_n (n := 2) (lo' := [(0, vR 61), (1, vI n)]) rfl rfl ?_
    refine g_lconst (x := 0) (by decide) rfl ?_
    refine g_lstore_n (n := 3) (lo' := [(2, vI (-1)), (0, vR 61), (1, vI n)]) rfl rfl ?_
    refine g_iconst rfl ?_
    refine g_istore (n := 5) (lo' := [(3, vL 0), (2, vI (-1)), (0, vR 61), (1, vI n)]) rfl rfl ?_
    have L22_1 : ∀ (n22_1 : Nat) (b_1 : Int) (f_1 : Int) (t_1 : Int), ((-1) ≤ b_1 ∧ b_1 ≤ 9) → ((-9223372036854775808) ≤ f_1 ∧ f_1 ≤ 9223372036854775807) → (0 ≤ t_1 ∧ t_1 ≤ 10) → (t_1 ≤ n) → (b_1 = (nbm (dQ m n) (Int.toNat t_1)).1) → (f_1 = (nbm (dQ m n) (Int.toNat t_1)).2) → ((10 - t_1).toNat) = n22_1 → cg_G V mX10_ask d q (R_I (fun z m' => (kI m') ∧ (fr [] [74, 75] m m') ∧ (-3 ≤ z) ∧ (z ≤ 9) ∧ (DAZ m n z))) 22 [(5, vI t_1), (3, vL f_1), (2, vI b_1), (0, vR 61), (1, vI n)] [] (kl m8) 0 0 := by
      intro n22_1
      induction n22_1 using Nat.strongRecOn with
      | _ n22_1 ih22_1 =>
        intro b_1 f_1 t_1 i17 i18 i19 iT iB iV q20
        refine g_iload (n := 5) rfl rfl ?_
        refine g_iload_n (n := 1) rfl rfl ?_
        refine g_icmp_ge (by omega) (by omega) (by omega) (by omega) rfl ?_ ?_
        · intro kk21
          refine g_iload_n (n := 2) rfl rfl ?_
          refine g_iret rfl rfl ?_
          exact ⟨_, _, rfl, hm10, hf14, by omega, by omega, Or.inr ⟨by omega, by omega, (by rw [show Int.toNat n = Int.toNat t_1 by omega]; exact iB)⟩⟩
        · intro kk22
          refine g_lconst (x := 0) (by decide) rfl ?_
          refine g_lstore (n := 6) (lo' := [(5, vI t_1), (3, vL f_1), (2, vI b_1), (0, vR 61), (1, vI n)]) rfl rfl ?_
          refine g_iconst rfl ?_
          refine g_istore (n := 8) (lo' := [(6, vL 0), (5, vI t_1), (3, vL f_1), (2, vI b_1), (0, vR 61), (1, vI n)]) rfl rfl ?_
          have L34_2 : ∀ (n34_2 : Nat) (s_2 : Int) (r_2 : Int), ((-9223372036854775808) ≤ s_2 ∧ s_2 ≤ 9223372036854775807) → (0 ≤ r_2 ∧ r_2 ≤ 6) → (r_2 ≤ m.1 25) → (s_2 = nmx (fun x => nwr (dWT m (Int.toNat (t_1 + 1)) x * dWO m n (Int.toNat (n - (t_1 + 1))) x)) (Int.toNat r_2)) → ((6 - r_2).toNat) = n34_2 → cg_G V mX10_ask d q (R_I (fun z m' => (kI m') ∧ (fr [] [74, 75] m m') ∧ (-3 ≤ z) ∧ (z ≤ 9) ∧ (DAZ m n z))) 34 [(8, vI r_2), (6, vL s_2), (5, vI t_1), (3, vL f_1), (2, vI b_1), (0, vR 61), (1, vI n)] [] (kl m8) 0 0 := by
            intro n34_2
            induction n34_2 using Nat.strongRecOn with
            | _ n34_2 ih34_2 =>
              intro s_2 r_2 i23 i24 iR iS q25
              refine g_iload (n := 8) rfl rfl ?_
              refine g_aload_n (n := 0) rfl rfl ?_
              refine g_getf (v := vI (m8.1 25)) rfl (kl_61 _) rfl ?_
              refine g_icmp_ge (by omega) (by omega) (by omega) (by omega) rfl ?_ ?_
              · intro kk26
                have eM : s_2 = dQ m n (t_1 + 1) := by rw [iS, show Int.toNat r_2 = Int.toNat (m.1 25) by omega]; rfl
                refine g_lload (n := 6) rfl rfl ?_
                refine g_lconst (x := 0) (by decide) rfl ?_
                refine g_lcmp (by omega) (by omega) (by decide) (by decide) rfl ?_
                intro z27 h28
                refine g_if_le (by omega) (by omega) rfl ?_ ?_
                · intro kk29
                  have bN := nbm_neg (Q := dQ m n) (t := t_1) (by omega) iB iV eM (by omega)
                  refine g_iinc (n := 5) (lo' := [(8, vI r_2), (6, vL s_2), (3, vL f_1), (2, vI b_1), (0, vR 61), (1, vI n)]) rfl rfl rfl ?_
                  refine g_goto rfl ?_
                  refine g_pick (lo' := [(5, vI (t_1 + 1)), (3, vL f_1), (2, vI b_1), (0, vR 61), (1, vI n)]) [0, 3, 4, 5, 6] rfl ?_
                  exact ih22_1 _ (by omega) b_1 f_1 (t_1 + 1) (by omega) (by omega) (by omega) (by omega) bN.1 bN.2 rfl
                · intro kk30
                  refine g_iload_n (n := 2) rfl rfl ?_
                  refine g_iconst rfl ?_
                  refine g_icmp_eq (by omega) (by omega) (by decide) (by decide) rfl ?_ ?_
                  · intro kk31
                    refine g_iload (n := 5) rfl rfl ?_
                    refine g_istore_n (n := 2) (lo' := [(8, vI r_2), (6, vL s_2), (5, vI t_1), (3, vL f_1), (0, vR 61), (1, vI n)]) rfl rfl ?_
                    refine g_lload (n := 6) rfl rfl ?_
                    refine g_lstore_n (n := 3) (lo' := [(2, vI t_1), (8, vI r_2), (6, vL s_2), (5, vI t_1), (0, vR 61), (1, vI n)]) rfl rfl ?_
                    have bN := nbm_pos (Q := dQ m n) (t := t_1) (by omega) iB iV eM (by omega)
                    refine g_iinc (n := 5) (lo' := [(3, vL s_2), (2, vI t_1), (8, vI r_2), (6, vL s_2), (0, vR 61), (1, vI n)]) rfl rfl rfl ?_
                    refine g_goto rfl ?_
                    refine g_pick (lo' := [(5, vI (t_1 + 1)), (3, vL s_2), (2, vI t_1), (0, vR 61), (1, vI n)]) [0, 1, 2, 5, 6] rfl ?_
                    exact ih22_1 _ (by omega) t_1 s_2 (t_1 + 1) (by omega) (by omega) (by omega) (by omega) bN.1 bN.2 rfl
                  · intro kk32
                    refine g_lload (n := 6) rfl rfl ?_
                    refine g_lload_n (n := 3) rfl rfl ?_
                    refine g_lcmp (by omega) (by omega) (by omega) (by omega) rfl ?_
                    intro z33 h34
                    refine g_if_ge (by omega) (by omega) rfl ?_ ?_
                    · intro kk35
                      have bN := nbm_neg (Q := dQ m n) (t := t_1) (by omega) iB iV eM (by omega)
                      refine g_iinc (n := 5) (lo' := [(8, vI r_2), (6, vL s_2), (3, vL f_1), (2, vI b_1), (0, vR 61), (1, vI n)]) rfl rfl rfl ?_
                      refine g_goto rfl ?_
                      refine g_pick (lo' := [(5, vI (t_1 + 1)), (3, vL f_1), (2, vI b_1), (0, vR 61), (1, vI n)]) [0, 3, 4, 5, 6] rfl ?_
                      exact ih22_1 _ (by omega) b_1 f_1 (t_1 + 1) (by omega) (by omega) (by omega) (by omega) bN.1 bN.2 rfl
                    · intro kk36
                      refine g_iload (n := 5) rfl rfl ?_
                      refine g_istore_n (n := 2) (lo' := [(8, vI r_2), (6, vL s_2), (5, vI t_1), (3, vL f_1), (0, vR 61), (1, vI n)]) rfl rfl ?_
                      refine g_lload (n := 6) rfl rfl ?_
                      refine g_lstore_n (n := 3) (lo' := [(2, vI t_1), (8, vI r_2), (6, vL s_2), (5, vI t_1), (0, vR 61), (1, vI n)]) rfl rfl ?_
                      have bN := nbm_pos (Q := dQ m n) (t := t_1) (by omega) iB iV eM (by omega)
                      refine g_iinc (n := 5) (lo' := [(3, vL s_2), (2, vI t_1), (8, vI r_2), (6, vL s_2), (0, vR 61), (1, vI n)]) rfl rfl rfl ?_
                      refine g_goto rfl ?_
                      refine g_pick (lo' := [(5, vI (t_1 + 1)), (3, vL s_2), (2, vI t_1), (0, vR 61), (1, vI n)]) [0, 1, 2, 5, 6] rfl ?_
                      exact ih22_1 _ (by omega) t_1 s_2 (t_1 + 1) (by omega) (by omega) (by omega) (by omega) bN.1 bN.2 rfl
              · intro kk37
                refine g_aload_n (n := 0) rfl rfl ?_
                refine g_getf (v := vR 74) rfl (kl_61 _) rfl ?_
                refine g_bipush (by decide) rfl ?_
                refine g_iload (n := 5) rfl rfl ?_
                refine g_imul rfl ?_
                refine g_bipush (by decide) rfl ?_
                refine g_iadd rfl ?_
                refine g_iload (n := 8) rfl rfl ?_
                refine g_iadd rfl ?_
                have h38 : (-9223372036854775808) ≤ m8.2.1 74 (((6 * t_1) + 6) + r_2) ∧ m8.2.1 74 (((6 * t_1) + 6) + r_2) ≤ 9223372036854775807 := hm10.2 74 (((6 * t_1) + 6) + r_2) (by omega) (show (((6 * t_1) + 6) + r_2) < (66 : Int) by omega)
                refine g_lald (f := m8.2.1 74) rfl (kl_74 _) (by decide) (by omega) (by omega) ?_
                refine g_aload_n (n := 0) rfl rfl ?_
                refine g_getf (v := vR 75) rfl (kl_61 _) rfl ?_
                refine g_bipush (by decide) rfl ?_
                refine g_iload (n := 5) rfl rfl ?_
                refine g_imul rfl ?_
                refine g_bipush (by decide) rfl ?_
                refine g_iadd rfl ?_
                refine g_iload (n := 8) rfl rfl ?_
                refine g_iadd rfl ?_
                have h39 : (-9223372036854775808) ≤ m8.2.1 75 (((6 * t_1) + 6) + r_2) ∧ m8.2.1 75 (((6 * t_1) + 6) + r_2) ≤ 9223372036854775807 := hm10.2 75 (((6 * t_1) + 6) + r_2) (by omega) (show (((6 * t_1) + 6) + r_2) < (66 : Int) by omega)
                refine g_lald (f := m8.2.1 75) rfl (kl_75 _) (by decide) (by omega) (by omega) ?_
                refine g_lmul rfl ?_
                refine g_nrmL ?_
                intro z40 h41 h42 h43 h44
                refine g_lstore (n := 9) (lo' := [(8, vI r_2), (6, vL s_2), (5, vI t_1), (3, vL f_1), (2, vI b_1), (0, vR 61), (1, vI n)]) rfl rfl ?_
                have eA := p12 (t_1 + 1) r_2 (by omega) (by omega) (by omega) (by omega)
                have eB := p13 (t_1 + 1) r_2 (by omega) (by omega) (by omega) (by omega)
                rw [show 6 * (t_1 + 1) + r_2 = 6 * t_1 + 6 + r_2 by omega] at eA eB
                have eP : z40 = nwr (dWT m (Int.toNat (t_1 + 1)) r_2 * dWO m n (Int.toNat (n - (t_1 + 1))) r_2) := by rw [← nwr_mul, ← eA, ← eB]; exact h44
                refine g_lload (n := 9) rfl rfl ?_
                refine g_lload (n := 6) rfl rfl ?_
                refine g_lcmp (by omega) (by omega) (by omega) (by omega) rfl ?_
                intro z45 h46
                refine g_if_le (by omega) (by omega) rfl ?_ ?_
                · intro kk47
                  refine g_lload (n := 6) rfl rfl ?_
                  refine g_lstore (n := 6) (lo' := [(9, vL z40), (8, vI r_2), (5, vI t_1), (3, vL f_1), (2, vI b_1), (0, vR 61), (1, vI n)]) rfl rfl ?_
                  have sN : s_2 = nmx (fun x => nwr (dWT m (Int.toNat (t_1 + 1)) x * dWO m n (Int.toNat (n - (t_1 + 1))) x)) (Int.toNat (r_2 + 1)) := nmx_st (h := (fun x => nwr (dWT m (Int.toNat (t_1 + 1)) x * dWO m n (Int.toNat (n - (t_1 + 1))) x))) (by omega) iS eP (by first | exact (if_pos (by omega)).symm | exact (if_neg (by omega)).symm)
                  refine g_iinc (n := 8) (lo' := [(6, vL s_2), (9, vL z40), (5, vI t_1), (3, vL f_1), (2, vI b_1), (0, vR 61), (1, vI n)]) rfl rfl rfl ?_
                  refine g_goto rfl ?_
                  refine g_pick (lo' := [(8, vI (r_2 + 1)), (6, vL s_2), (5, vI t_1), (3, vL f_1), (2, vI b_1), (0, vR 61), (1, vI n)]) [0, 1, 3, 4, 5, 6, 7] rfl ?_
                  exact ih34_2 _ (by omega) s_2 (r_2 + 1) (by omega) (by omega) (by omega) sN rfl
                · intro kk48
                  refine g_lload (n := 9) rfl rfl ?_
                  refine g_goto rfl ?_
                  refine g_lstore (n := 6) (lo' := [(9, vL z40), (8, vI r_2), (5, vI t_1), (3, vL f_1), (2, vI b_1), (0, vR 61), (1, vI n)]) rfl rfl ?_
                  have sN : z40 = nmx (fun x => nwr (dWT m (Int.toNat (t_1 + 1)) x * dWO m n (Int.toNat (n - (t_1 + 1))) x)) (Int.toNat (r_2 + 1)) := nmx_st (h := (fun x => nwr (dWT m (Int.toNat (t_1 + 1)) x * dWO m n (Int.toNat (n - (t_1 + 1))) x))) (by omega) iS eP (by first | exact (if_pos (by omega)).symm | exact (if_neg (by omega)).symm)
                  refine g_iinc (n := 8) (lo' := [(6, vL z40), (9, vL z40), (5, vI t_1), (3, vL f_1), (2, vI b_1), (0, vR 61), (1, vI n)]) rfl rfl rfl ?_
                  refine g_goto rfl ?_
                  refine g_pick (lo' := [(8, vI (r_2 + 1)), (6, vL z40), (5, vI t_1), (3, vL f_1), (2, vI b_1), (0, vR 61), (1, vI n)]) [0, 1, 3, 4, 5, 6, 7] rfl ?_
                  exact ih34_2 _ (by omega) z40 (r_2 + 1) (by omega) (by omega) (by omega) sN rfl
          exact L34_2 _ 0 0 (by omega) (by omega) (by omega) rfl rfl
    exact L22_1 _ (-1) 0 0 (by omega) (by omega) (by omega) (by omega) rfl rfl rfl
  · intro kk49
    refine g_bipush (by decide) rfl ?_
    refine g_iret rfl rfl ?_
    exact ⟨_, _, rfl, hm, hf0, by omega, by omega, Or.inl ⟨by omega, rfl⟩⟩
