/-! ===== contracts: the model, what needs no standing ===== -/
theorem d_in {V : cg_V} {d q : Nat} (hd : 0 ≤ d) (hq : 0 ≤ q) {m : kM} (hm : kI m) {a b c : Int} (h_a : (-9223372036854775808) ≤ a ∧ a ≤ 9223372036854775807) (h_b : (-9223372036854775808) ≤ b ∧ b ≤ 9223372036854775807) (h_c : (-9223372036854775808) ≤ c ∧ c ≤ 9223372036854775807) : cg_S V d q mX10_in [vL a, vL b, vL c] (kl m) (R_I (fun z m' => (m = m') ∧ ((z = 1 ∧ b ≤ a ∧ a ≤ c) ∨ (z = 0 ∧ (a < b ∨ c < a))))) := by
  refine cg_of (List.mem_of_getElem? (show ae_MT[119]? = some mX10_in from rfl)) (Nat.le_of_ble_eq_true rfl) ?_
  show cg_G V mX10_in d q _ 0 [(0, vL a), (2, vL b), (4, vL c)] [] (kl m) 0 0
  refine g_lload_n (n := 0) rfl rfl ?_
  refine g_lload_n (n := 2) rfl rfl ?_
  refine g_lcmp (by omega) (by omega) (by omega) (by omega) rfl ?_
  intro z1 h2
  refine g_if_lt (by omega) (by omega) rfl ?_ ?_
  · intro k3
    refine g_iconst rfl ?_
    refine g_zret rfl rfl (by omega) ?_
    exact ⟨_, _, rfl, rfl, (by omega)⟩
  · intro k4
    refine g_lload_n (n := 0) rfl rfl ?_
    refine g_lload (n := 4) rfl rfl ?_
    refine g_lcmp (by omega) (by omega) (by omega) (by omega) rfl ?_
    intro z5 h6
    refine g_if_gt (by omega) (by omega) rfl ?_ ?_
    · intro k7
      refine g_iconst rfl ?_
      refine g_zret rfl rfl (by omega) ?_
      exact ⟨_, _, rfl, rfl, (by omega)⟩
    · intro k8
      refine g_iconst rfl ?_
      refine g_goto rfl ?_
      refine g_zret rfl rfl (by omega) ?_
      exact ⟨_, _, rfl, rfl, (by omega)⟩
theorem d_has {V : cg_V} {d q : Nat} (hd : 0 ≤ d) (hq : 0 ≤ q) {m : kM} (hm : kI m) {s k : Int} (h_s : (-2147483648) ≤ s ∧ s ≤ 2147483647) (h_k : 0 ≤ k ∧ k ≤ 5) : cg_S V d q mX10_has [vI s, vI k] (kl m) (R_I (fun z m' => (m = m') ∧ (z = hb s k) ∧ (0 ≤ z) ∧ (z ≤ 1))) := by
  refine cg_of (List.mem_of_getElem? (show ae_MT[120]? = some mX10_has from rfl)) (Nat.le_of_ble_eq_true rfl) ?_
  show cg_G V mX10_has d q _ 0 [(0, vI s), (1, vI k)] [] (kl m) 0 0
  refine g_iload_n (n := 0) rfl rfl ?_
  refine g_iload_n (n := 1) rfl rfl ?_
  refine g_ishr rfl ?_
  intro z1 h2 h3 h4
  have h5 : z1 = s / 2 ^ (Int.toNat (k)) := b_shr h2 (by omega) (by omega) (by omega) (by omega)
  refine g_iconst rfl ?_
  refine g_iand rfl ?_
  intro z6 h7 h8 h9
  have h10 : z6 = z1 % 2 := b_modN (k := 1) h7 (by decide) (by decide) (by decide)
  refine g_iconst rfl ?_
  refine g_icmp_ne (by omega) (by omega) (by decide) (by decide) rfl ?_ ?_
  · intro k11
    refine g_iconst rfl ?_
    refine g_zret rfl rfl (by omega) ?_
    exact ⟨_, _, rfl, rfl, (by show _ = s / 2 ^ (Int.toNat k) % 2; omega), (by omega), (by omega)⟩
  · intro k12
    refine g_iconst rfl ?_
    refine g_goto rfl ?_
    refine g_zret rfl rfl (by omega) ?_
    exact ⟨_, _, rfl, rfl, (by show _ = s / 2 ^ (Int.toNat k) % 2; omega), (by omega), (by omega)⟩
theorem d_bits {V : cg_V} {d q : Nat} (hd : 0 ≤ d) (hq : 0 ≤ q) {m : kM} (hm : kI m) {s : Int} (h_s : (-2147483648) ≤ s ∧ s ≤ 2147483647) : cg_S V d q mX10_bits [vI s] (kl m) (R_I (fun z m' => (m = m') ∧ (z = s / 1 % 2 + s / 2 % 2 + s / 4 % 2 + s / 8 % 2 + s / 16 % 2 + s / 32 % 2))) := by
  refine cg_of (List.mem_of_getElem? (show ae_MT[121]? = some mX10_bits from rfl)) (Nat.le_of_ble_eq_true rfl) ?_
  show cg_G V mX10_bits d q _ 0 [(0, vI s)] [] (kl m) 0 0
  refine g_iconst rfl ?_
  refine g_istore_n (n := 1) (lo' := [(0, vI s)]) rfl rfl ?_
  refine g_iconst rfl ?_
  refine g_istore_n (n := 2) (lo' := [(1, vI 0), (0, vI s)]) rfl rfl ?_
  refine g_iload_n (n := 2) rfl rfl ?_
  refine g_bipush (by decide) rfl ?_
  refine g_icmp_ge (by decide) (by decide) (by decide) (by decide) rfl ?_ ?_
  · intro k1
    exfalso; omega
  · intro k2
    refine g_iload_n (n := 1) rfl rfl ?_
    refine g_iload_n (n := 0) rfl rfl ?_
    refine g_iload_n (n := 2) rfl rfl ?_
    refine g_ishr rfl ?_
    intro z3 h4 h5 h6
    have h7 : z3 = s / 1 := b_shrN h4 (by decide) (by omega) (by omega) (by decide) (by decide)
    refine g_iconst rfl ?_
    refine g_iand rfl ?_
    intro z8 h9 h10 h11
    have h12 : z8 = z3 % 2 := b_modN (k := 1) h9 (by decide) (by decide) (by decide)
    refine g_iadd rfl ?_
    refine g_istore_n (n := 1) (lo' := [(2, vI 0), (0, vI s)]) rfl rfl ?_
    refine g_iinc (n := 2) (lo' := [(1, vI (0 + z8)), (0, vI s)]) rfl rfl rfl ?_
    refine g_goto rfl ?_
    refine g_iload_n (n := 2) rfl rfl ?_
    refine g_bipush (by decide) rfl ?_
    refine g_icmp_ge (by omega) (by omega) (by decide) (by decide) rfl ?_ ?_
    · intro k13
      exfalso; omega
    · intro k14
      refine g_iload_n (n := 1) rfl rfl ?_
      refine g_iload_n (n := 0) rfl rfl ?_
      refine g_iload_n (n := 2) rfl rfl ?_
      refine g_ishr rfl ?_
      intro z15 h16 h17 h18
      have h19 : z15 = s / 2 := b_shrN h16 (by decide) (by omega) (by omega) (by decide) (by decide)
      refine g_iconst rfl ?_
      refine g_iand rfl ?_
      intro z20 h21 h22 h23
      have h24 : z20 = z15 % 2 := b_modN (k := 1) h21 (by decide) (by decide) (by decide)
      refine g_iadd rfl ?_
      refine g_istore_n (n := 1) (lo' := [(2, vI (0 + 1)), (0, vI s)]) rfl rfl ?_
      refine g_iinc (n := 2) (lo' := [(1, vI ((0 + z8) + z20)), (0, vI s)]) rfl rfl rfl ?_
      refine g_goto rfl ?_
      refine g_iload_n (n := 2) rfl rfl ?_
      refine g_bipush (by decide) rfl ?_
      refine g_icmp_ge (by omega) (by omega) (by decide) (by decide) rfl ?_ ?_
      · intro k25
        exfalso; omega
      · intro k26
        refine g_iload_n (n := 1) rfl rfl ?_
        refine g_iload_n (n := 0) rfl rfl ?_
        refine g_iload_n (n := 2) rfl rfl ?_
        refine g_ishr rfl ?_
        intro z27 h28 h29 h30
        have h31 : z27 = s / 4 := b_shrN h28 (by decide) (by omega) (by omega) (by decide) (by decide)
        refine g_iconst rfl ?_
        refine g_iand rfl ?_
        intro z32 h33 h34 h35
        have h36 : z32 = z27 % 2 := b_modN (k := 1) h33 (by decide) (by decide) (by decide)
        refine g_iadd rfl ?_
        refine g_istore_n (n := 1) (lo' := [(2, vI ((0 + 1) + 1)), (0, vI s)]) rfl rfl ?_
        refine g_iinc (n := 2) (lo' := [(1, vI (((0 + z8) + z20) + z32)), (0, vI s)]) rfl rfl rfl ?_
        refine g_goto rfl ?_
        refine g_iload_n (n := 2) rfl rfl ?_
        refine g_bipush (by decide) rfl ?_
        refine g_icmp_ge (by omega) (by omega) (by decide) (by decide) rfl ?_ ?_
        · intro k37
          exfalso; omega
        · intro k38
          refine g_iload_n (n := 1) rfl rfl ?_
          refine g_iload_n (n := 0) rfl rfl ?_
          refine g_iload_n (n := 2) rfl rfl ?_
          refine g_ishr rfl ?_
          intro z39 h40 h41 h42
          have h43 : z39 = s / 8 := b_shrN h40 (by decide) (by omega) (by omega) (by decide) (by decide)
          refine g_iconst rfl ?_
          refine g_iand rfl ?_
          intro z44 h45 h46 h47
          have h48 : z44 = z39 % 2 := b_modN (k := 1) h45 (by decide) (by decide) (by decide)
          refine g_iadd rfl ?_
          refine g_istore_n (n := 1) (lo' := [(2, vI (((0 + 1) + 1) + 1)), (0, vI s)]) rfl rfl ?_
          refine g_iinc (n := 2) (lo' := [(1, vI ((((0 + z8) + z20) + z32) + z44)), (0, vI s)]) rfl rfl rfl ?_
          refine g_goto rfl ?_
          refine g_iload_n (n := 2) rfl rfl ?_
          refine g_bipush (by decide) rfl ?_
          refine g_icmp_ge (by omega) (by omega) (by decide) (by decide) rfl ?_ ?_
          · intro k49
            exfalso; omega
          · intro k50
            refine g_iload_n (n := 1) rfl rfl ?_
            refine g_iload_n (n := 0) rfl rfl ?_
            refine g_iload_n (n := 2) rfl rfl ?_
            refine g_ishr rfl ?_
            intro z51 h52 h53 h54
            have h55 : z51 = s / 16 := b_shrN h52 (by decide) (by omega) (by omega) (by decide) (by decide)
            refine g_iconst rfl ?_
            refine g_iand rfl ?_
            intro z56 h57 h58 h59
            have h60 : z56 = z51 % 2 := b_modN (k := 1) h57 (by decide) (by decide) (by decide)
            refine g_iadd rfl ?_
            refine g_istore_n (n := 1) (lo' := [(2, vI ((((0 + 1) + 1) + 1) + 1)), (0, vI s)]) rfl rfl ?_
            refine g_iinc (n := 2) (lo' := [(1, vI (((((0 + z8) + z20) + z32) + z44) + z56)), (0, vI s)]) rfl rfl rfl ?_
            refine g_goto rfl ?_
            refine g_iload_n (n := 2) rfl rfl ?_
            refine g_bipush (by decide) rfl ?_
            refine g_icmp_ge (by omega) (by omega) (by decide) (by decide) rfl ?_ ?_
            · intro k61
              exfalso; omega
            · intro k62
              refine g_iload_n (n := 1) rfl rfl ?_
              refine g_iload_n (n := 0) rfl rfl ?_
              refine g_iload_n (n := 2) rfl rfl ?_
              refine g_ishr rfl ?_
              intro z63 h64 h65 h66
              have h67 : z63 = s / 32 := b_shrN h64 (by decide) (by omega) (by omega) (by decide) (by decide)
              refine g_iconst rfl ?_
              refine g_iand rfl ?_
              intro z68 h69 h70 h71
              have h72 : z68 = z63 % 2 := b_modN (k := 1) h69 (by decide) (by decide) (by decide)
              refine g_iadd rfl ?_
              refine g_istore_n (n := 1) (lo' := [(2, vI (((((0 + 1) + 1) + 1) + 1) + 1)), (0, vI s)]) rfl rfl ?_
              refine g_iinc (n := 2) (lo' := [(1, vI ((((((0 + z8) + z20) + z32) + z44) + z56) + z68)), (0, vI s)]) rfl rfl rfl ?_
              refine g_goto rfl ?_
              refine g_iload_n (n := 2) rfl rfl ?_
              refine g_bipush (by decide) rfl ?_
              refine g_icmp_ge (by omega) (by omega) (by decide) (by decide) rfl ?_ ?_
              · intro k73
                refine g_iload_n (n := 1) rfl rfl ?_
                refine g_iret rfl rfl ?_
                refine ⟨_, _, rfl, rfl, ?_⟩
                simp only [h7, h12, h19, h24, h31, h36, h43, h48, h55, h60, h67, h72, Int.zero_add]
              · intro k74
                exfalso; omega
theorem d_sort {V : cg_V} {d q : Nat} (hd : 0 ≤ d) (hq : 0 ≤ q) {m : kM} (hm : kI m) {c : Int} (h_c : (-2147483648) ≤ c ∧ c ≤ 2147483647) : cg_S V d q mX10_sort [vI c] (kl m) (R_I (fun z m' => (m = m') ∧ ((z = 1 ∧ 97 ≤ c ∧ c ≤ 122) ∨ (z = 2 ∧ 48 ≤ c ∧ c ≤ 57) ∨ (z = 0 ∧ (c < 48 ∨ (57 < c ∧ c < 97) ∨ 122 < c))))) := by
  refine cg_of (List.mem_of_getElem? (show ae_MT[124]? = some mX10_sort from rfl)) (Nat.le_of_ble_eq_true rfl) ?_
  show cg_G V mX10_sort d q _ 0 [(0, vI c)] [] (kl m) 0 0
  refine g_iload_n (n := 0) rfl rfl ?_
  refine g_bipush (by decide) rfl ?_
  refine g_icmp_lt (by omega) (by omega) (by decide) (by decide) rfl ?_ ?_
  · intro k1
    refine g_iload_n (n := 0) rfl rfl ?_
    refine g_bipush (by decide) rfl ?_
    refine g_icmp_lt (by omega) (by omega) (by decide) (by decide) rfl ?_ ?_
    · intro k2
      refine g_iconst rfl ?_
      refine g_iret rfl rfl ?_
      exact ⟨_, _, rfl, rfl, (by omega)⟩
    · intro k3
      refine g_iload_n (n := 0) rfl rfl ?_
      refine g_bipush (by decide) rfl ?_
      refine g_icmp_gt (by omega) (by omega) (by decide) (by decide) rfl ?_ ?_
      · intro k4
        refine g_iconst rfl ?_
        refine g_iret rfl rfl ?_
        exact ⟨_, _, rfl, rfl, (by omega)⟩
      · intro k5
        refine g_iconst rfl ?_
        refine g_goto rfl ?_
        refine g_iret rfl rfl ?_
        exact ⟨_, _, rfl, rfl, (by omega)⟩
  · intro k6
    refine g_iload_n (n := 0) rfl rfl ?_
    refine g_bipush (by decide) rfl ?_
    refine g_icmp_gt (by omega) (by omega) (by decide) (by decide) rfl ?_ ?_
    · intro k7
      refine g_iload_n (n := 0) rfl rfl ?_
      refine g_bipush (by decide) rfl ?_
      refine g_icmp_lt (by omega) (by omega) (by decide) (by decide) rfl ?_ ?_
      · intro k8
        exfalso; omega
      · intro k9
        refine g_iload_n (n := 0) rfl rfl ?_
        refine g_bipush (by decide) rfl ?_
        refine g_icmp_gt (by omega) (by omega) (by decide) (by decide) rfl ?_ ?_
        · intro k10
          refine g_iconst rfl ?_
          refine g_iret rfl rfl ?_
          exact ⟨_, _, rfl, rfl, (by omega)⟩
        · intro k11
          exfalso; omega
    · intro k12
      refine g_iconst rfl ?_
      refine g_goto rfl ?_
      refine g_iret rfl rfl ?_
      exact ⟨_, _, rfl, rfl, (by omega)⟩
theorem d_isRoom {V : cg_V} {d q : Nat} (hd : 1 ≤ d) (hq : 25 ≤ q) {m : kM} (hm : kI m) {a : Int} (h_a : (-2147483648) ≤ a ∧ a ≤ 2147483647) : cg_S V d q mX10_isRoom [vR 61, vI a] (kl m) (R_I (fun z m' => (m = m') ∧ ((z = 1 ∧ 0 ≤ a ∧ a < m.1 25) ∨ (z = 0 ∧ (a < 0 ∨ m.1 25 ≤ a))))) := by
  refine cg_of (List.mem_of_getElem? (show ae_MT[139]? = some mX10_isRoom from rfl)) (Nat.le_of_ble_eq_true rfl) ?_
  show cg_G V mX10_isRoom d q _ 0 [(0, vR 61), (1, vI a)] [] (kl m) 0 0
  have h1 : 2 ≤ m.1 25 ∧ m.1 25 ≤ 6 := hm.1 25
  refine g_iload_n (n := 1) rfl rfl ?_
  refine g_i2l (by omega) (by omega) rfl ?_
  refine g_lconst (x := 0) (by decide) rfl ?_
  refine g_aload_n (n := 0) rfl rfl ?_
  refine g_getf (v := vI (m.1 25)) rfl (kl_61 _) rfl ?_
  refine g_iconst rfl ?_
  refine g_isub rfl ?_
  refine g_i2l (by omega) (by omega) rfl ?_
  refine c_sI (ps := [vL (m.1 25 - 1), vL 0, vL a]) (r := []) (as := [vL a, vL 0, vL (m.1 25 - 1)]) (cs' := 0) (sl' := 0) rfl rfl rfl rfl rfl rfl (d_in (d := d - 1) (q := q - (6 + 19)) (by omega) (by omega) hm (a := a) (b := 0) (c := (m.1 25 - 1)) (show (-9223372036854775808) ≤ a ∧ a ≤ 9223372036854775807 by omega) (show (-9223372036854775808) ≤ 0 ∧ 0 ≤ 9223372036854775807 by omega) (show (-9223372036854775808) ≤ (m.1 25 - 1) ∧ (m.1 25 - 1) ≤ 9223372036854775807 by omega)) (by omega) (show 6 + 19 ≤ q by omega) (Nat.le_of_ble_eq_true rfl) (Nat.le_of_ble_eq_true rfl) rfl rfl rfl ?_
  rintro z2 m3 ⟨rfl, p5⟩
  refine g_zret rfl rfl (by omega) ?_
  exact ⟨_, _, rfl, rfl, (by omega)⟩
theorem d_isDoor {V : cg_V} {d q : Nat} (hd : 1 ≤ d) (hq : 25 ≤ q) {m : kM} (hm : kI m) {a : Int} (h_a : (-2147483648) ≤ a ∧ a ≤ 2147483647) : cg_S V d q mX10_isDoor [vR 61, vI a] (kl m) (R_I (fun z m' => (m = m') ∧ ((z = 1 ∧ 0 ≤ a ∧ a < m.1 26) ∨ (z = 0 ∧ (a < 0 ∨ m.1 26 ≤ a))))) := by
  refine cg_of (List.mem_of_getElem? (show ae_MT[140]? = some mX10_isDoor from rfl)) (Nat.le_of_ble_eq_true rfl) ?_
  show cg_G V mX10_isDoor d q _ 0 [(0, vR 61), (1, vI a)] [] (kl m) 0 0
  have h1 : 0 ≤ m.1 26 ∧ m.1 26 ≤ 10 := hm.1 26
  refine g_iload_n (n := 1) rfl rfl ?_
  refine g_i2l (by omega) (by omega) rfl ?_
  refine g_lconst (x := 0) (by decide) rfl ?_
  refine g_aload_n (n := 0) rfl rfl ?_
  refine g_getf (v := vI (m.1 26)) rfl (kl_61 _) rfl ?_
  refine g_iconst rfl ?_
  refine g_isub rfl ?_
  refine g_i2l (by omega) (by omega) rfl ?_
  refine c_sI (ps := [vL (m.1 26 - 1), vL 0, vL a]) (r := []) (as := [vL a, vL 0, vL (m.1 26 - 1)]) (cs' := 0) (sl' := 0) rfl rfl rfl rfl rfl rfl (d_in (d := d - 1) (q := q - (6 + 19)) (by omega) (by omega) hm (a := a) (b := 0) (c := (m.1 26 - 1)) (show (-9223372036854775808) ≤ a ∧ a ≤ 9223372036854775807 by omega) (show (-9223372036854775808) ≤ 0 ∧ 0 ≤ 9223372036854775807 by omega) (show (-9223372036854775808) ≤ (m.1 26 - 1) ∧ (m.1 26 - 1) ≤ 9223372036854775807 by omega)) (by omega) (show 6 + 19 ≤ q by omega) (Nat.le_of_ble_eq_true rfl) (Nat.le_of_ble_eq_true rfl) rfl rfl rfl ?_
  rintro z2 m3 ⟨rfl, p5⟩
  refine g_zret rfl rfl (by omega) ?_
  exact ⟨_, _, rfl, rfl, (by omega)⟩
theorem d_isGuard {V : cg_V} {d q : Nat} (hd : 1 ≤ d) (hq : 25 ≤ q) {m : kM} (hm : kI m) {a : Int} (h_a : (-2147483648) ≤ a ∧ a ≤ 2147483647) : cg_S V d q mX10_isGuard [vI a] (kl m) (R_I (fun z m' => (m = m') ∧ ((z = 1 ∧ 0 ≤ a ∧ a ≤ 1) ∨ (z = 0 ∧ (a < 0 ∨ 1 < a))))) := by
  refine cg_of (List.mem_of_getElem? (show ae_MT[141]? = some mX10_isGuard from rfl)) (Nat.le_of_ble_eq_true rfl) ?_
  show cg_G V mX10_isGuard d q _ 0 [(0, vI a)] [] (kl m) 0 0
  refine g_iload_n (n := 0) rfl rfl ?_
  refine g_i2l (by omega) (by omega) rfl ?_
  refine g_lconst (x := 0) (by decide) rfl ?_
  refine g_lconst (x := 1) (by decide) rfl ?_
  refine c_sI (ps := [vL 1, vL 0, vL a]) (r := []) (as := [vL a, vL 0, vL 1]) (cs' := 0) (sl' := 0) rfl rfl rfl rfl rfl rfl (d_in (d := d - 1) (q := q - (6 + 19)) (by omega) (by omega) hm (a := a) (b := 0) (c := 1) (show (-9223372036854775808) ≤ a ∧ a ≤ 9223372036854775807 by omega) (show (-9223372036854775808) ≤ 0 ∧ 0 ≤ 9223372036854775807 by omega) (show (-9223372036854775808) ≤ 1 ∧ 1 ≤ 9223372036854775807 by omega)) (by omega) (show 6 + 19 ≤ q by omega) (Nat.le_of_ble_eq_true rfl) (Nat.le_of_ble_eq_true rfl) rfl rfl rfl ?_
  rintro z1 m2 ⟨rfl, p4⟩
  refine g_zret rfl rfl (by omega) ?_
  exact ⟨_, _, rfl, rfl, (by omega)⟩
theorem d_isCode {V : cg_V} {d q : Nat} (hd : 1 ≤ d) (hq : 25 ≤ q) {m : kM} (hm : kI m) {a : Int} (h_a : (-2147483648) ≤ a ∧ a ≤ 2147483647) : cg_S V d q mX10_isCode [vI a] (kl m) (R_I (fun z m' => (m = m') ∧ ((z = 1 ∧ 0 ≤ a ∧ a ≤ 99) ∨ (z = 0 ∧ (a < 0 ∨ 99 < a))))) := by
  refine cg_of (List.mem_of_getElem? (show ae_MT[152]? = some mX10_isCode from rfl)) (Nat.le_of_ble_eq_true rfl) ?_
  show cg_G V mX10_isCode d q _ 0 [(0, vI a)] [] (kl m) 0 0
  refine g_iload_n (n := 0) rfl rfl ?_
  refine g_i2l (by omega) (by omega) rfl ?_
  refine g_lconst (x := 0) (by decide) rfl ?_
  refine g_ldc2 (x := 99) (by decide) rfl ?_
  refine c_sI (ps := [vL 99, vL 0, vL a]) (r := []) (as := [vL a, vL 0, vL 99]) (cs' := 0) (sl' := 0) rfl rfl rfl rfl rfl rfl (d_in (d := d - 1) (q := q - (6 + 19)) (by omega) (by omega) hm (a := a) (b := 0) (c := 99) (show (-9223372036854775808) ≤ a ∧ a ≤ 9223372036854775807 by omega) (show (-9223372036854775808) ≤ 0 ∧ 0 ≤ 9223372036854775807 by omega) (show (-9223372036854775808) ≤ 99 ∧ 99 ≤ 9223372036854775807 by omega)) (by omega) (show 6 + 19 ≤ q by omega) (Nat.le_of_ble_eq_true rfl) (Nat.le_of_ble_eq_true rfl) rfl rfl rfl ?_
  rintro z1 m2 ⟨rfl, p4⟩
  refine g_zret rfl rfl (by omega) ?_
  exact ⟨_, _, rfl, rfl, (by omega)⟩
theorem d_isNight {V : cg_V} {d q : Nat} (hd : 1 ≤ d) (hq : 25 ≤ q) {m : kM} (hm : kI m) {a : Int} (h_a : (-2147483648) ≤ a ∧ a ≤ 2147483647) : cg_S V d q mX10_isNight [vI a] (kl m) (R_I (fun z m' => (m = m') ∧ ((z = 1 ∧ 1 ≤ a ∧ a ≤ 10) ∨ (z = 0 ∧ (a < 1 ∨ 10 < a))))) := by
  refine cg_of (List.mem_of_getElem? (show ae_MT[183]? = some mX10_isNight from rfl)) (Nat.le_of_ble_eq_true rfl) ?_
  show cg_G V mX10_isNight d q _ 0 [(0, vI a)] [] (kl m) 0 0
  refine g_iload_n (n := 0) rfl rfl ?_
  refine g_i2l (by omega) (by omega) rfl ?_
  refine g_lconst (x := 1) (by decide) rfl ?_
  refine g_ldc2 (x := 10) (by decide) rfl ?_
  refine c_sI (ps := [vL 10, vL 1, vL a]) (r := []) (as := [vL a, vL 1, vL 10]) (cs' := 0) (sl' := 0) rfl rfl rfl rfl rfl rfl (d_in (d := d - 1) (q := q - (6 + 19)) (by omega) (by omega) hm (a := a) (b := 1) (c := 10) (show (-9223372036854775808) ≤ a ∧ a ≤ 9223372036854775807 by omega) (show (-9223372036854775808) ≤ 1 ∧ 1 ≤ 9223372036854775807 by omega) (show (-9223372036854775808) ≤ 10 ∧ 10 ≤ 9223372036854775807 by omega)) (by omega) (show 6 + 19 ≤ q by omega) (Nat.le_of_ble_eq_true rfl) (Nat.le_of_ble_eq_true rfl) rfl rfl rfl ?_
  rintro z1 m2 ⟨rfl, p4⟩
  refine g_zret rfl rfl (by omega) ?_
  exact ⟨_, _, rfl, rfl, (by omega)⟩
theorem d_isDoorLine {V : cg_V} {d q : Nat} (hd : 1 ≤ d) (hq : 25 ≤ q) {m : kM} (hm : kI m) {a : Int} (h_a : (-2147483648) ≤ a ∧ a ≤ 2147483647) : cg_S V d q mX10_isDoorLine [vI a] (kl m) (R_I (fun z m' => (m = m') ∧ ((z = 1 ∧ 1 ≤ a ∧ a ≤ 6) ∨ (z = 0 ∧ (a < 1 ∨ 6 < a))))) := by
  refine cg_of (List.mem_of_getElem? (show ae_MT[132]? = some mX10_isDoorLine from rfl)) (Nat.le_of_ble_eq_true rfl) ?_
  show cg_G V mX10_isDoorLine d q _ 0 [(0, vI a)] [] (kl m) 0 0
  refine g_iload_n (n := 0) rfl rfl ?_
  refine g_i2l (by omega) (by omega) rfl ?_
  refine g_lconst (x := 1) (by decide) rfl ?_
  refine g_ldc2 (x := 6) (by decide) rfl ?_
  refine c_sI (ps := [vL 6, vL 1, vL a]) (r := []) (as := [vL a, vL 1, vL 6]) (cs' := 0) (sl' := 0) rfl rfl rfl rfl rfl rfl (d_in (d := d - 1) (q := q - (6 + 19)) (by omega) (by omega) hm (a := a) (b := 1) (c := 6) (show (-9223372036854775808) ≤ a ∧ a ≤ 9223372036854775807 by omega) (show (-9223372036854775808) ≤ 1 ∧ 1 ≤ 9223372036854775807 by omega) (show (-9223372036854775808) ≤ 6 ∧ 6 ≤ 9223372036854775807 by omega)) (by omega) (show 6 + 19 ≤ q by omega) (Nat.le_of_ble_eq_true rfl) (Nat.le_of_ble_eq_true rfl) rfl rfl rfl ?_
  rintro z1 m2 ⟨rfl, p4⟩
  refine g_zret rfl rfl (by omega) ?_
  exact ⟨_, _, rfl, rfl, (by omega)⟩
theorem d_room {V : cg_V} {d q : Nat} (hd : 2 ≤ d) (hq : 46 ≤ q) {m : kM} (hm : kI m) {r w : Int} (h_r : (-2147483648) ≤ r ∧ r ≤ 2147483647) (h_w : (-2147483648) ≤ w ∧ w ≤ 2147483647) : cg_S V d q mX10_room [vR 61, vI r, vI w] (kl m) (R_I (fun z m' => (m = m') ∧ (-2147483648 ≤ z) ∧ (z < 2147483648))) := by
  refine cg_of (List.mem_of_getElem? (show ae_MT[142]? = some mX10_room from rfl)) (Nat.le_of_ble_eq_true rfl) ?_
  show cg_G V mX10_room d q _ 0 [(0, vR 61), (1, vI r), (2, vI w)] [] (kl m) 0 0
  refine g_aload_n (n := 0) rfl rfl ?_
  refine g_iload_n (n := 1) rfl rfl ?_
  have h1 : 2 ≤ m.1 25 ∧ m.1 25 ≤ 6 := hm.1 25
  refine c_vI (i := 61) (ps := [vI r]) (r := []) (as := [vR 61, vI r]) (cs' := 0) (sl' := 0) rfl rfl rfl rfl rfl rfl (kl_61 _) (d_isRoom (d := d - 1) (q := q - (2 + 19)) (by omega) (by omega) hm (a := r) (show (-2147483648) ≤ r ∧ r ≤ 2147483647 by omega)) (by omega) (show 2 + 19 ≤ q by omega) (Nat.le_of_ble_eq_true rfl) (Nat.le_of_ble_eq_true rfl) rfl rfl rfl ?_
  rintro z2 m3 ⟨rfl, p5⟩
  refine g_if_ne (by omega) (by omega) rfl ?_ ?_
  · intro k6
    refine g_iload_n (n := 2) rfl rfl ?_
    have k7 : w < 0 ∨ 3 < w ∨ w = 0 ∨ w = 1 ∨ w = 2 ∨ w = 3 := by omega
    have J8 : cg_G V mX10_room d q (R_I (fun z m' => (m = m') ∧ (-2147483648 ≤ z) ∧ (z < 2147483648))) 117 [(0, vR 61), (1, vI r), (2, vI w)] [] (kl m) 0 0 := by
      refine g_bipush (by decide) rfl ?_
      refine g_iret rfl rfl ?_
      exact ⟨_, _, rfl, rfl, (by omega), (by omega)⟩
    rcases k7 with k7 | k7 | k7 | k7 | k7 | k7
    · refine g_tsw_out (tg := 117) (by omega) (by omega) rfl (by omega) (by decide) ?_
      exact J8
    · refine g_tsw_out (tg := 117) (by omega) (by omega) rfl (by omega) (by decide) ?_
      exact J8
    · refine g_tsw_in (tg := 44) (o9 := 32) (by omega) (by omega) rfl (by omega) (by omega) (by rw [k7]; rfl) (by decide) ?_
      refine g_aload_n (n := 0) rfl rfl ?_
      refine g_getf (v := vR 62) rfl (kl_61 _) rfl ?_
      refine g_iconst rfl ?_
      have h9 : (-2147483648) ≤ m.2.1 62 5 ∧ m.2.1 62 5 ≤ 2147483647 := hm.2 62 5 (by omega) (show 5 < (48 : Int) by omega)
      refine g_iald (f := m.2.1 62) rfl (kl_62 _) (by decide) (by omega) (by omega) ?_
      refine g_iload_n (n := 1) rfl rfl ?_
      refine g_ishr rfl ?_
      intro z10 h11 h12 h13
      refine g_iconst rfl ?_
      refine g_iand rfl ?_
      intro z15 h16 h17 h18
      have h19 : z15 = z10 % 2 := b_modN (k := 1) h16 (by decide) (by decide) (by decide)
      refine g_iret rfl rfl ?_
      exact ⟨_, _, rfl, rfl, (by omega), (by omega)⟩
    · refine g_tsw_in (tg := 55) (o9 := 43) (by omega) (by omega) rfl (by omega) (by omega) (by rw [k7]; rfl) (by decide) ?_
      refine g_aload_n (n := 0) rfl rfl ?_
      refine g_getf (v := vR 62) rfl (kl_61 _) rfl ?_
      refine g_iconst rfl ?_
      have h20 : (-2147483648) ≤ m.2.1 62 0 ∧ m.2.1 62 0 ≤ 2147483647 := hm.2 62 0 (by omega) (show 0 < (48 : Int) by omega)
      refine g_iald (f := m.2.1 62) rfl (kl_62 _) (by decide) (by omega) (by omega) ?_
      refine g_iload_n (n := 1) rfl rfl ?_
      refine g_icmp_ne (by omega) (by omega) (by omega) (by omega) rfl ?_ ?_
      · intro k21
        refine g_iconst rfl ?_
        refine g_aload_n (n := 0) rfl rfl ?_
        refine g_getf (v := vR 62) rfl (kl_61 _) rfl ?_
        refine g_iconst rfl ?_
        have h22 : (-2147483648) ≤ m.2.1 62 1 ∧ m.2.1 62 1 ≤ 2147483647 := hm.2 62 1 (by omega) (show 1 < (48 : Int) by omega)
        refine g_iald (f := m.2.1 62) rfl (kl_62 _) (by decide) (by omega) (by omega) ?_
        refine g_iload_n (n := 1) rfl rfl ?_
        refine g_icmp_ne (by omega) (by omega) (by omega) (by omega) rfl ?_ ?_
        · intro k23
          refine g_iconst rfl ?_
          refine g_iadd rfl ?_
          refine g_iret rfl rfl ?_
          exact ⟨_, _, rfl, rfl, (by omega), (by omega)⟩
        · intro k24
          refine g_iconst rfl ?_
          refine g_goto rfl ?_
          refine g_iadd rfl ?_
          refine g_iret rfl rfl ?_
          exact ⟨_, _, rfl, rfl, (by omega), (by omega)⟩
      · intro k25
        refine g_iconst rfl ?_
        refine g_goto rfl ?_
        refine g_aload_n (n := 0) rfl rfl ?_
        refine g_getf (v := vR 62) rfl (kl_61 _) rfl ?_
        refine g_iconst rfl ?_
        have h26 : (-2147483648) ≤ m.2.1 62 1 ∧ m.2.1 62 1 ≤ 2147483647 := hm.2 62 1 (by omega) (show 1 < (48 : Int) by omega)
        refine g_iald (f := m.2.1 62) rfl (kl_62 _) (by decide) (by omega) (by omega) ?_
        refine g_iload_n (n := 1) rfl rfl ?_
        refine g_icmp_ne (by omega) (by omega) (by omega) (by omega) rfl ?_ ?_
        · intro k27
          refine g_iconst rfl ?_
          refine g_iadd rfl ?_
          refine g_iret rfl rfl ?_
          exact ⟨_, _, rfl, rfl, (by omega), (by omega)⟩
        · intro k28
          refine g_iconst rfl ?_
          refine g_goto rfl ?_
          refine g_iadd rfl ?_
          refine g_iret rfl rfl ?_
          exact ⟨_, _, rfl, rfl, (by omega), (by omega)⟩
    · refine g_tsw_in (tg := 87) (o9 := 75) (by omega) (by omega) rfl (by omega) (by omega) (by rw [k7]; rfl) (by decide) ?_
      refine g_aload_n (n := 0) rfl rfl ?_
      refine g_getf (v := vR 62) rfl (kl_61 _) rfl ?_
      refine g_iconst rfl ?_
      have h29 : (-2147483648) ≤ m.2.1 62 4 ∧ m.2.1 62 4 ≤ 2147483647 := hm.2 62 4 (by omega) (show 4 < (48 : Int) by omega)
      refine g_iald (f := m.2.1 62) rfl (kl_62 _) (by decide) (by omega) (by omega) ?_
      refine g_iload_n (n := 1) rfl rfl ?_
      refine g_icmp_ne (by omega) (by omega) (by omega) (by omega) rfl ?_ ?_
      · intro k30
        refine g_iconst rfl ?_
        refine g_iret rfl rfl ?_
        exact ⟨_, _, rfl, rfl, (by omega), (by omega)⟩
      · intro k31
        refine g_iconst rfl ?_
        refine g_goto rfl ?_
        refine g_iret rfl rfl ?_
        exact ⟨_, _, rfl, rfl, (by omega), (by omega)⟩
    · refine g_tsw_in (tg := 103) (o9 := 91) (by omega) (by omega) rfl (by omega) (by omega) (by rw [k7]; rfl) (by decide) ?_
      refine g_aload_n (n := 0) rfl rfl ?_
      have h32 : 0 ≤ m.1 27 ∧ m.1 27 ≤ 5 := hm.1 27
      refine g_getf (v := vI (m.1 27)) rfl (kl_61 _) rfl ?_
      refine g_iload_n (n := 1) rfl rfl ?_
      refine g_icmp_ne (by omega) (by omega) (by omega) (by omega) rfl ?_ ?_
      · intro k33
        refine g_iconst rfl ?_
        refine g_iret rfl rfl ?_
        exact ⟨_, _, rfl, rfl, (by omega), (by omega)⟩
      · intro k34
        refine g_iconst rfl ?_
        refine g_goto rfl ?_
        refine g_iret rfl rfl ?_
        exact ⟨_, _, rfl, rfl, (by omega), (by omega)⟩
  · intro k35
    refine g_bipush (by decide) rfl ?_
    refine g_iret rfl rfl ?_
    exact ⟨_, _, rfl, rfl, (by omega), (by omega)⟩
theorem d_door {V : cg_V} {d q : Nat} (hd : 2 ≤ d) (hq : 46 ≤ q) {m : kM} (hm : kI m) {a w : Int} (h_a : (-2147483648) ≤ a ∧ a ≤ 2147483647) (h_w : (-2147483648) ≤ w ∧ w ≤ 2147483647) : cg_S V d q mX10_door [vR 61, vI a, vI w] (kl m) (R_I (fun z m' => (m = m') ∧ (-3 ≤ z) ∧ (z ≤ 5))) := by
  refine cg_of (List.mem_of_getElem? (show ae_MT[143]? = some mX10_door from rfl)) (Nat.le_of_ble_eq_true rfl) ?_
  show cg_G V mX10_door d q _ 0 [(0, vR 61), (1, vI a), (2, vI w)] [] (kl m) 0 0
  refine g_aload_n (n := 0) rfl rfl ?_
  refine g_iload_n (n := 1) rfl rfl ?_
  have h1 : 0 ≤ m.1 26 ∧ m.1 26 ≤ 10 := hm.1 26
  refine c_vI (i := 61) (ps := [vI a]) (r := []) (as := [vR 61, vI a]) (cs' := 0) (sl' := 0) rfl rfl rfl rfl rfl rfl (kl_61 _) (d_isDoor (d := d - 1) (q := q - (2 + 19)) (by omega) (by omega) hm (a := a) (show (-2147483648) ≤ a ∧ a ≤ 2147483647 by omega)) (by omega) (show 2 + 19 ≤ q by omega) (Nat.le_of_ble_eq_true rfl) (Nat.le_of_ble_eq_true rfl) rfl rfl rfl ?_
  rintro z2 m3 ⟨rfl, p5⟩
  refine g_if_ne (by omega) (by omega) rfl ?_ ?_
  · intro k6
    refine g_iload_n (n := 2) rfl rfl ?_
    refine g_i2l (by omega) (by omega) rfl ?_
    refine g_lconst (x := 0) (by decide) rfl ?_
    refine g_ldc2 (x := 3) (by decide) rfl ?_
    refine c_sI (ps := [vL 3, vL 0, vL w]) (r := []) (as := [vL w, vL 0, vL 3]) (cs' := 0) (sl' := 0) rfl rfl rfl rfl rfl rfl (d_in (d := d - 1) (q := q - (6 + 19)) (by omega) (by omega) hm (a := w) (b := 0) (c := 3) (show (-9223372036854775808) ≤ w ∧ w ≤ 9223372036854775807 by omega) (show (-9223372036854775808) ≤ 0 ∧ 0 ≤ 9223372036854775807 by omega) (show (-9223372036854775808) ≤ 3 ∧ 3 ≤ 9223372036854775807 by omega)) (by omega) (show 6 + 19 ≤ q by omega) (Nat.le_of_ble_eq_true rfl) (Nat.le_of_ble_eq_true rfl) rfl rfl rfl ?_
    rintro z7 m8 ⟨rfl, p10⟩
    refine g_if_eq (by omega) (by omega) rfl ?_ ?_
    · intro k11
      refine g_bipush (by decide) rfl ?_
      refine g_iret rfl rfl ?_
      exact ⟨_, _, rfl, rfl, (by omega), (by omega)⟩
    · intro k12
      refine g_aload_n (n := 0) rfl rfl ?_
      refine g_getf (v := vR 66) rfl (kl_61 _) rfl ?_
      refine g_iconst rfl ?_
      refine g_iload_n (n := 1) rfl rfl ?_
      refine g_imul rfl ?_
      refine g_nrm ?_
      intro z13 h14 h15 h16 h17
      refine g_iload_n (n := 2) rfl rfl ?_
      refine g_iadd rfl ?_
      refine g_nrm ?_
      intro z18 h19 h20 h21 h22
      have h23 : 0 ≤ m.2.1 66 z18 ∧ m.2.1 66 z18 ≤ 5 := hm.2 66 z18 (by omega) (show z18 < (40 : Int) by omega)
      refine g_iald (f := m.2.1 66) rfl (kl_66 _) (by decide) (by omega) (by omega) ?_
      refine g_goto rfl ?_
      refine g_iret rfl rfl ?_
      exact ⟨_, _, rfl, rfl, (by omega), (by omega)⟩
  · intro k24
    refine g_bipush (by decide) rfl ?_
    refine g_iret rfl rfl ?_
    exact ⟨_, _, rfl, rfl, (by omega), (by omega)⟩
theorem d_as {V : cg_V} {d q : Nat} (hd : 2 ≤ d) (hq : 46 ≤ q) {m : kM} (hm : kI m) {a w : Int} (h_a : (-2147483648) ≤ a ∧ a ≤ 2147483647) (h_w : (-2147483648) ≤ w ∧ w ≤ 2147483647) : cg_S V d q mX10_as [vR 61, vI a, vI w] (kl m) (R_I (fun z m' => (m = m') ∧ (-4 ≤ z) ∧ (z ≤ 2))) := by
  refine cg_of (List.mem_of_getElem? (show ae_MT[144]? = some mX10_as from rfl)) (Nat.le_of_ble_eq_true rfl) ?_
  show cg_G V mX10_as d q _ 0 [(0, vR 61), (1, vI a), (2, vI w)] [] (kl m) 0 0
  refine g_aload_n (n := 0) rfl rfl ?_
  refine g_iload_n (n := 1) rfl rfl ?_
  have h1 : 0 ≤ m.1 26 ∧ m.1 26 ≤ 10 := hm.1 26
  refine c_vI (i := 61) (ps := [vI a]) (r := []) (as := [vR 61, vI a]) (cs' := 0) (sl' := 0) rfl rfl rfl rfl rfl rfl (kl_61 _) (d_isDoor (d := d - 1) (q := q - (2 + 19)) (by omega) (by omega) hm (a := a) (show (-2147483648) ≤ a ∧ a ≤ 2147483647 by omega)) (by omega) (show 2 + 19 ≤ q by omega) (Nat.le_of_ble_eq_true rfl) (Nat.le_of_ble_eq_true rfl) rfl rfl rfl ?_
  rintro z2 m3 ⟨rfl, p5⟩
  refine g_if_ne (by omega) (by omega) rfl ?_ ?_
  · intro k6
    refine g_iload_n (n := 2) rfl rfl ?_
    refine g_i2l (by omega) (by omega) rfl ?_
    refine g_lconst (x := 0) (by decide) rfl ?_
    refine g_ldc2 (x := 7) (by decide) rfl ?_
    refine c_sI (ps := [vL 7, vL 0, vL w]) (r := []) (as := [vL w, vL 0, vL 7]) (cs' := 0) (sl' := 0) rfl rfl rfl rfl rfl rfl (d_in (d := d - 1) (q := q - (6 + 19)) (by omega) (by omega) hm (a := w) (b := 0) (c := 7) (show (-9223372036854775808) ≤ w ∧ w ≤ 9223372036854775807 by omega) (show (-9223372036854775808) ≤ 0 ∧ 0 ≤ 9223372036854775807 by omega) (show (-9223372036854775808) ≤ 7 ∧ 7 ≤ 9223372036854775807 by omega)) (by omega) (show 6 + 19 ≤ q by omega) (Nat.le_of_ble_eq_true rfl) (Nat.le_of_ble_eq_true rfl) rfl rfl rfl ?_
    rintro z7 m8 ⟨rfl, p10⟩
    refine g_if_ne (by omega) (by omega) rfl ?_ ?_
    · intro k11
      refine g_aload_n (n := 0) rfl rfl ?_
      refine g_getf (v := vR 66) rfl (kl_61 _) rfl ?_
      refine g_iconst rfl ?_
      refine g_iload_n (n := 1) rfl rfl ?_
      refine g_imul rfl ?_
      refine g_nrm ?_
      intro z12 h13 h14 h15 h16
      refine g_iconst rfl ?_
      refine g_iadd rfl ?_
      refine g_nrm ?_
      intro z17 h18 h19 h20 h21
      have h22 : 0 ≤ m.2.1 66 z17 ∧ m.2.1 66 z17 ≤ 5 := hm.2 66 z17 (by omega) (show z17 < (40 : Int) by omega)
      refine g_iald (f := m.2.1 66) rfl (kl_66 _) (by decide) (by omega) (by omega) ?_
      refine g_istore_n (n := 3) (lo' := [(0, vR 61), (1, vI a), (2, vI w)]) rfl rfl ?_
      have J52_1 : ∀ x52_1 : Int, (0 ≤ x52_1 ∧ x52_1 ≤ 1) → cg_G V mX10_as d q (R_I (fun z m' => (m = m') ∧ (-4 ≤ z) ∧ (z ≤ 2))) 52 [(3, vI (m.2.1 66 z17)), (0, vR 61), (1, vI a), (2, vI w)] [vI x52_1] (kl m) 0 0 := by
        intro x52_1 hx52_1_0
        refine g_istore (n := 4) (lo' := [(3, vI (m.2.1 66 z17)), (0, vR 61), (1, vI a), (2, vI w)]) rfl rfl ?_
        have J140_2 : ∀ x140_2 : Int, (0 ≤ x140_2 ∧ x140_2 ≤ 1) → cg_G V mX10_as d q (R_I (fun z m' => (m = m') ∧ (-4 ≤ z) ∧ (z ≤ 2))) 140 [(4, vI x52_1), (3, vI (m.2.1 66 z17)), (0, vR 61), (1, vI a), (2, vI w)] [vI x140_2] (kl m) 0 0 := by
          intro x140_2 hx140_2_0
          refine g_istore (n := 5) (lo' := [(4, vI x52_1), (3, vI (m.2.1 66 z17)), (0, vR 61), (1, vI a), (2, vI w)]) rfl rfl ?_
          refine g_iload (n := 5) rfl rfl ?_
          refine g_if_ne (by omega) (by omega) rfl ?_ ?_
          · intro k23
            refine g_iload_n (n := 3) rfl rfl ?_
            refine g_iconst rfl ?_
            refine g_icmp_ne (by omega) (by omega) (by decide) (by decide) rfl ?_ ?_
            · intro k24
              refine g_iload (n := 4) rfl rfl ?_
              refine g_if_eq (by omega) (by omega) rfl ?_ ?_
              · intro k25
                refine g_iconst rfl ?_
                refine g_iret rfl rfl ?_
                exact ⟨_, _, rfl, rfl, (by omega), (by omega)⟩
              · intro k26
                refine g_iconst rfl ?_
                refine g_goto rfl ?_
                refine g_iret rfl rfl ?_
                exact ⟨_, _, rfl, rfl, (by omega), (by omega)⟩
            · intro k27
              refine g_iconst rfl ?_
              refine g_goto rfl ?_
              refine g_iret rfl rfl ?_
              exact ⟨_, _, rfl, rfl, (by omega), (by omega)⟩
          · intro k28
            refine g_bipush (by decide) rfl ?_
            refine g_goto rfl ?_
            refine g_iret rfl rfl ?_
            exact ⟨_, _, rfl, rfl, (by omega), (by omega)⟩
        refine g_iload_n (n := 2) rfl rfl ?_
        refine g_if_eq (by omega) (by omega) rfl ?_ ?_
        · intro k29
          refine g_iconst rfl ?_
          refine g_goto rfl ?_
          exact J140_2 1 (by omega)
        · intro k30
          refine g_iload_n (n := 2) rfl rfl ?_
          refine g_iconst rfl ?_
          refine g_icmp_ne (by omega) (by omega) (by decide) (by decide) rfl ?_ ?_
          · intro k31
            refine g_iload_n (n := 2) rfl rfl ?_
            refine g_iconst rfl ?_
            refine g_icmp_ne (by omega) (by omega) (by decide) (by decide) rfl ?_ ?_
            · intro k32
              refine g_iload_n (n := 2) rfl rfl ?_
              refine g_iconst rfl ?_
              refine g_icmp_ne (by omega) (by omega) (by decide) (by decide) rfl ?_ ?_
              · intro k33
                refine g_iload_n (n := 2) rfl rfl ?_
                refine g_iconst rfl ?_
                refine g_icmp_ne (by omega) (by omega) (by decide) (by decide) rfl ?_ ?_
                · intro k34
                  refine g_iload_n (n := 2) rfl rfl ?_
                  refine g_iconst rfl ?_
                  refine g_icmp_ne (by omega) (by omega) (by decide) (by decide) rfl ?_ ?_
                  · intro k35
                    refine g_iload_n (n := 2) rfl rfl ?_
                    refine g_bipush (by decide) rfl ?_
                    refine g_icmp_ne (by omega) (by omega) (by decide) (by decide) rfl ?_ ?_
                    · intro k36
                      refine g_iload_n (n := 2) rfl rfl ?_
                      refine g_bipush (by decide) rfl ?_
                      refine g_icmp_ne (by omega) (by omega) (by decide) (by decide) rfl ?_ ?_
                      · intro k37
                        refine g_iconst rfl ?_
                        exact J140_2 0 (by omega)
                      · intro k38
                        refine g_iload_n (n := 3) rfl rfl ?_
                        refine g_iconst rfl ?_
                        refine g_icmp_ne (by omega) (by omega) (by decide) (by decide) rfl ?_ ?_
                        · intro k39
                          refine g_iconst rfl ?_
                          exact J140_2 0 (by omega)
                        · intro k40
                          refine g_iconst rfl ?_
                          refine g_goto rfl ?_
                          exact J140_2 1 (by omega)
                    · intro k41
                      refine g_iload_n (n := 3) rfl rfl ?_
                      refine g_iconst rfl ?_
                      refine g_icmp_eq (by omega) (by omega) (by decide) (by decide) rfl ?_ ?_
                      · intro k42
                        refine g_iconst rfl ?_
                        refine g_goto rfl ?_
                        exact J140_2 1 (by omega)
                      · intro k43
                        refine g_iload_n (n := 2) rfl rfl ?_
                        refine g_bipush (by decide) rfl ?_
                        refine g_icmp_ne (by omega) (by omega) (by decide) (by decide) rfl ?_ ?_
                        · intro k44
                          refine g_iconst rfl ?_
                          exact J140_2 0 (by omega)
                        · intro k45
                          exfalso; omega
                  · intro k46
                    refine g_iload_n (n := 3) rfl rfl ?_
                    refine g_iconst rfl ?_
                    refine g_icmp_eq (by omega) (by omega) (by decide) (by decide) rfl ?_ ?_
                    · intro k47
                      refine g_iconst rfl ?_
                      refine g_goto rfl ?_
                      exact J140_2 1 (by omega)
                    · intro k48
                      refine g_iload_n (n := 2) rfl rfl ?_
                      refine g_bipush (by decide) rfl ?_
                      refine g_icmp_ne (by omega) (by omega) (by decide) (by decide) rfl ?_ ?_
                      · intro k49
                        refine g_iload_n (n := 2) rfl rfl ?_
                        refine g_bipush (by decide) rfl ?_
                        refine g_icmp_ne (by omega) (by omega) (by decide) (by decide) rfl ?_ ?_
                        · intro k50
                          refine g_iconst rfl ?_
                          exact J140_2 0 (by omega)
                        · intro k51
                          exfalso; omega
                      · intro k52
                        exfalso; omega
                · intro k53
                  refine g_iload_n (n := 3) rfl rfl ?_
                  refine g_iconst rfl ?_
                  refine g_icmp_eq (by omega) (by omega) (by decide) (by decide) rfl ?_ ?_
                  · intro k54
                    refine g_iconst rfl ?_
                    refine g_goto rfl ?_
                    exact J140_2 1 (by omega)
                  · intro k55
                    refine g_iload_n (n := 2) rfl rfl ?_
                    refine g_iconst rfl ?_
                    refine g_icmp_ne (by omega) (by omega) (by decide) (by decide) rfl ?_ ?_
                    · intro k56
                      refine g_iload_n (n := 2) rfl rfl ?_
                      refine g_bipush (by decide) rfl ?_
                      refine g_icmp_ne (by omega) (by omega) (by decide) (by decide) rfl ?_ ?_
                      · intro k57
                        refine g_iload_n (n := 2) rfl rfl ?_
                        refine g_bipush (by decide) rfl ?_
                        refine g_icmp_ne (by omega) (by omega) (by decide) (by decide) rfl ?_ ?_
                        · intro k58
                          refine g_iconst rfl ?_
                          exact J140_2 0 (by omega)
                        · intro k59
                          exfalso; omega
                      · intro k60
                        exfalso; omega
                    · intro k61
                      exfalso; omega
              · intro k62
                refine g_iload_n (n := 3) rfl rfl ?_
                refine g_iconst rfl ?_
                refine g_icmp_eq (by omega) (by omega) (by decide) (by decide) rfl ?_ ?_
                · intro k63
                  refine g_iconst rfl ?_
                  refine g_goto rfl ?_
                  exact J140_2 1 (by omega)
                · intro k64
                  refine g_iload_n (n := 3) rfl rfl ?_
                  refine g_iconst rfl ?_
                  refine g_icmp_eq (by omega) (by omega) (by decide) (by decide) rfl ?_ ?_
                  · intro k65
                    refine g_iconst rfl ?_
                    refine g_goto rfl ?_
                    exact J140_2 1 (by omega)
                  · intro k66
                    refine g_iload_n (n := 2) rfl rfl ?_
                    refine g_iconst rfl ?_
                    refine g_icmp_ne (by omega) (by omega) (by decide) (by decide) rfl ?_ ?_
                    · intro k67
                      refine g_iload_n (n := 2) rfl rfl ?_
                      refine g_iconst rfl ?_
                      refine g_icmp_ne (by omega) (by omega) (by decide) (by decide) rfl ?_ ?_
                      · intro k68
                        refine g_iload_n (n := 2) rfl rfl ?_
                        refine g_bipush (by decide) rfl ?_
                        refine g_icmp_ne (by omega) (by omega) (by decide) (by decide) rfl ?_ ?_
                        · intro k69
                          refine g_iload_n (n := 2) rfl rfl ?_
                          refine g_bipush (by decide) rfl ?_
                          refine g_icmp_ne (by omega) (by omega) (by decide) (by decide) rfl ?_ ?_
                          · intro k70
                            refine g_iconst rfl ?_
                            exact J140_2 0 (by omega)
                          · intro k71
                            exfalso; omega
                        · intro k72
                          exfalso; omega
                      · intro k73
                        exfalso; omega
                    · intro k74
                      exfalso; omega
            · intro k75
              refine g_iload (n := 4) rfl rfl ?_
              refine g_if_ne (by omega) (by omega) rfl ?_ ?_
              · intro k76
                refine g_iconst rfl ?_
                refine g_goto rfl ?_
                exact J140_2 1 (by omega)
              · intro k77
                refine g_iload_n (n := 2) rfl rfl ?_
                refine g_iconst rfl ?_
                refine g_icmp_ne (by omega) (by omega) (by decide) (by decide) rfl ?_ ?_
                · intro k78
                  refine g_iload_n (n := 2) rfl rfl ?_
                  refine g_iconst rfl ?_
                  refine g_icmp_ne (by omega) (by omega) (by decide) (by decide) rfl ?_ ?_
                  · intro k79
                    refine g_iload_n (n := 2) rfl rfl ?_
                    refine g_iconst rfl ?_
                    refine g_icmp_ne (by omega) (by omega) (by decide) (by decide) rfl ?_ ?_
                    · intro k80
                      refine g_iload_n (n := 2) rfl rfl ?_
                      refine g_bipush (by decide) rfl ?_
                      refine g_icmp_ne (by omega) (by omega) (by decide) (by decide) rfl ?_ ?_
                      · intro k81
                        refine g_iload_n (n := 2) rfl rfl ?_
                        refine g_bipush (by decide) rfl ?_
                        refine g_icmp_ne (by omega) (by omega) (by decide) (by decide) rfl ?_ ?_
                        · intro k82
                          refine g_iconst rfl ?_
                          exact J140_2 0 (by omega)
                        · intro k83
                          exfalso; omega
                      · intro k84
                        exfalso; omega
                    · intro k85
                      exfalso; omega
                  · intro k86
                    exfalso; omega
                · intro k87
                  exfalso; omega
          · intro k88
            refine g_iload_n (n := 3) rfl rfl ?_
            refine g_iconst rfl ?_
            refine g_icmp_ne (by omega) (by omega) (by decide) (by decide) rfl ?_ ?_
            · intro k89
              refine g_iconst rfl ?_
              refine g_goto rfl ?_
              exact J140_2 1 (by omega)
            · intro k90
              refine g_iload_n (n := 2) rfl rfl ?_
              refine g_iconst rfl ?_
              refine g_icmp_ne (by omega) (by omega) (by decide) (by decide) rfl ?_ ?_
              · intro k91
                refine g_iload_n (n := 2) rfl rfl ?_
                refine g_iconst rfl ?_
                refine g_icmp_ne (by omega) (by omega) (by decide) (by decide) rfl ?_ ?_
                · intro k92
                  refine g_iload_n (n := 2) rfl rfl ?_
                  refine g_iconst rfl ?_
                  refine g_icmp_ne (by omega) (by omega) (by decide) (by decide) rfl ?_ ?_
                  · intro k93
                    refine g_iload_n (n := 2) rfl rfl ?_
                    refine g_iconst rfl ?_
                    refine g_icmp_ne (by omega) (by omega) (by decide) (by decide) rfl ?_ ?_
                    · intro k94
                      refine g_iload_n (n := 2) rfl rfl ?_
                      refine g_bipush (by decide) rfl ?_
                      refine g_icmp_ne (by omega) (by omega) (by decide) (by decide) rfl ?_ ?_
                      · intro k95
                        refine g_iload_n (n := 2) rfl rfl ?_
                        refine g_bipush (by decide) rfl ?_
                        refine g_icmp_ne (by omega) (by omega) (by decide) (by decide) rfl ?_ ?_
                        · intro k96
                          refine g_iconst rfl ?_
                          exact J140_2 0 (by omega)
                        · intro k97
                          exfalso; omega
                      · intro k98
                        exfalso; omega
                    · intro k99
                      exfalso; omega
                  · intro k100
                    exfalso; omega
                · intro k101
                  exfalso; omega
              · intro k102
                exfalso; omega
      refine g_iload_n (n := 3) rfl rfl ?_
      refine g_iconst rfl ?_
      refine g_icmp_eq (by omega) (by omega) (by decide) (by decide) rfl ?_ ?_
      · intro k103
        refine g_iconst rfl ?_
        exact J52_1 0 (by omega)
      · intro k104
        refine g_iload_n (n := 3) rfl rfl ?_
        refine g_iconst rfl ?_
        refine g_icmp_eq (by omega) (by omega) (by decide) (by decide) rfl ?_ ?_
        · intro k105
          refine g_iconst rfl ?_
          exact J52_1 0 (by omega)
        · intro k106
          refine g_iconst rfl ?_
          refine g_goto rfl ?_
          exact J52_1 1 (by omega)
    · intro k107
      refine g_bipush (by decide) rfl ?_
      refine g_iret rfl rfl ?_
      exact ⟨_, _, rfl, rfl, (by omega), (by omega)⟩
  · intro k108
    refine g_bipush (by decide) rfl ?_
    refine g_iret rfl rfl ?_
    exact ⟨_, _, rfl, rfl, (by omega), (by omega)⟩
theorem d_count {V : cg_V} {d q : Nat} (hd : 0 ≤ d) (hq : 0 ≤ q) {m : kM} (hm : kI m) {w : Int} (h_w : (-2147483648) ≤ w ∧ w ≤ 2147483647) : cg_S V d q mX10_count [vR 61, vI w] (kl m) (R_I (fun z m' => (m = m') ∧ (-2147483648 ≤ z) ∧ (z < 2147483648))) := by
  refine cg_of (List.mem_of_getElem? (show ae_MT[188]? = some mX10_count from rfl)) (Nat.le_of_ble_eq_true rfl) ?_
  show cg_G V mX10_count d q _ 0 [(0, vR 61), (1, vI w)] [] (kl m) 0 0
  refine g_iload_n (n := 1) rfl rfl ?_
  have k1 : w < 0 ∨ 8 < w ∨ w = 0 ∨ w = 1 ∨ w = 2 ∨ w = 3 ∨ w = 4 ∨ w = 5 ∨ w = 6 ∨ w = 7 ∨ w = 8 := by omega
  have J2 : cg_G V mX10_count d q (R_I (fun z m' => (m = m') ∧ (-2147483648 ≤ z) ∧ (z < 2147483648))) 107 [(0, vR 61), (1, vI w)] [] (kl m) 0 0 := by
    refine g_bipush (by decide) rfl ?_
    refine g_iret rfl rfl ?_
    exact ⟨_, _, rfl, rfl, (by omega), (by omega)⟩
  rcases k1 with k1 | k1 | k1 | k1 | k1 | k1 | k1 | k1 | k1 | k1 | k1
  · refine g_tsw_out (tg := 107) (by omega) (by omega) rfl (by omega) (by decide) ?_
    exact J2
  · refine g_tsw_out (tg := 107) (by omega) (by omega) rfl (by omega) (by decide) ?_
    exact J2
  · refine g_tsw_in (tg := 52) (o9 := 51) (by omega) (by omega) rfl (by omega) (by omega) (by rw [k1]; rfl) (by decide) ?_
    refine g_aload_n (n := 0) rfl rfl ?_
    have h3 : 2 ≤ m.1 25 ∧ m.1 25 ≤ 6 := hm.1 25
    refine g_getf (v := vI (m.1 25)) rfl (kl_61 _) rfl ?_
    refine g_iret rfl rfl ?_
    exact ⟨_, _, rfl, rfl, (by omega), (by omega)⟩
  · refine g_tsw_in (tg := 57) (o9 := 56) (by omega) (by omega) rfl (by omega) (by omega) (by rw [k1]; rfl) (by decide) ?_
    refine g_aload_n (n := 0) rfl rfl ?_
    have h4 : 0 ≤ m.1 26 ∧ m.1 26 ≤ 10 := hm.1 26
    refine g_getf (v := vI (m.1 26)) rfl (kl_61 _) rfl ?_
    refine g_iret rfl rfl ?_
    exact ⟨_, _, rfl, rfl, (by omega), (by omega)⟩
  · refine g_tsw_in (tg := 62) (o9 := 61) (by omega) (by omega) rfl (by omega) (by omega) (by rw [k1]; rfl) (by decide) ?_
    refine g_aload_n (n := 0) rfl rfl ?_
    refine g_getf (v := vR 62) rfl (kl_61 _) rfl ?_
    refine g_iconst rfl ?_
    have h5 : (-2147483648) ≤ m.2.1 62 5 ∧ m.2.1 62 5 ≤ 2147483647 := hm.2 62 5 (by omega) (show 5 < (48 : Int) by omega)
    refine g_iald (f := m.2.1 62) rfl (kl_62 _) (by decide) (by omega) (by omega) ?_
    refine g_iret rfl rfl ?_
    exact ⟨_, _, rfl, rfl, (by omega), (by omega)⟩
  · refine g_tsw_in (tg := 69) (o9 := 68) (by omega) (by omega) rfl (by omega) (by omega) (by rw [k1]; rfl) (by decide) ?_
    refine g_aload_n (n := 0) rfl rfl ?_
    refine g_getf (v := vR 62) rfl (kl_61 _) rfl ?_
    refine g_bipush (by decide) rfl ?_
    have h6 : (-2147483648) ≤ m.2.1 62 6 ∧ m.2.1 62 6 ≤ 2147483647 := hm.2 62 6 (by omega) (show 6 < (48 : Int) by omega)
    refine g_iald (f := m.2.1 62) rfl (kl_62 _) (by decide) (by omega) (by omega) ?_
    refine g_iret rfl rfl ?_
    exact ⟨_, _, rfl, rfl, (by omega), (by omega)⟩
  · refine g_tsw_in (tg := 77) (o9 := 76) (by omega) (by omega) rfl (by omega) (by omega) (by rw [k1]; rfl) (by decide) ?_
    refine g_aload_n (n := 0) rfl rfl ?_
    refine g_getf (v := vR 62) rfl (kl_61 _) rfl ?_
    refine g_iconst rfl ?_
    have h7 : (-2147483648) ≤ m.2.1 62 4 ∧ m.2.1 62 4 ≤ 2147483647 := hm.2 62 4 (by omega) (show 4 < (48 : Int) by omega)
    refine g_iald (f := m.2.1 62) rfl (kl_62 _) (by decide) (by omega) (by omega) ?_
    refine g_iret rfl rfl ?_
    exact ⟨_, _, rfl, rfl, (by omega), (by omega)⟩
  · refine g_tsw_in (tg := 84) (o9 := 83) (by omega) (by omega) rfl (by omega) (by omega) (by rw [k1]; rfl) (by decide) ?_
    refine g_aload_n (n := 0) rfl rfl ?_
    refine g_getf (v := vR 62) rfl (kl_61 _) rfl ?_
    refine g_bipush (by decide) rfl ?_
    have h8 : (-2147483648) ≤ m.2.1 62 7 ∧ m.2.1 62 7 ≤ 2147483647 := hm.2 62 7 (by omega) (show 7 < (48 : Int) by omega)
    refine g_iald (f := m.2.1 62) rfl (kl_62 _) (by decide) (by omega) (by omega) ?_
    refine g_iret rfl rfl ?_
    exact ⟨_, _, rfl, rfl, (by omega), (by omega)⟩
  · refine g_tsw_in (tg := 92) (o9 := 91) (by omega) (by omega) rfl (by omega) (by omega) (by rw [k1]; rfl) (by decide) ?_
    refine g_aload_n (n := 0) rfl rfl ?_
    have h9 : 0 ≤ m.1 38 ∧ m.1 38 ≤ 20 := hm.1 38
    refine g_getf (v := vI (m.1 38)) rfl (kl_61 _) rfl ?_
    refine g_iret rfl rfl ?_
    exact ⟨_, _, rfl, rfl, (by omega), (by omega)⟩
  · refine g_tsw_in (tg := 97) (o9 := 96) (by omega) (by omega) rfl (by omega) (by omega) (by rw [k1]; rfl) (by decide) ?_
    refine g_aload_n (n := 0) rfl rfl ?_
    have h10 : 0 ≤ m.1 39 ∧ m.1 39 ≤ 8 := hm.1 39
    refine g_getf (v := vI (m.1 39)) rfl (kl_61 _) rfl ?_
    refine g_iret rfl rfl ?_
    exact ⟨_, _, rfl, rfl, (by omega), (by omega)⟩
  · refine g_tsw_in (tg := 102) (o9 := 101) (by omega) (by omega) rfl (by omega) (by omega) (by rw [k1]; rfl) (by decide) ?_
    refine g_aload_n (n := 0) rfl rfl ?_
    have h11 : 0 ≤ m.1 23 ∧ m.1 23 ≤ 200 := hm.1 23
    refine g_getf (v := vI (m.1 23)) rfl (kl_61 _) rfl ?_
    refine g_iret rfl rfl ?_
    exact ⟨_, _, rfl, rfl, (by omega), (by omega)⟩
theorem d_power {V : cg_V} {d q : Nat} (hd : 0 ≤ d) (hq : 0 ≤ q) {m : kM} (hm : kI m) {a n : Int} (h_a : (-9223372036854775808) ≤ a ∧ a ≤ 9223372036854775807) (h_n : 0 ≤ n ∧ n ≤ 16) : cg_S V d q mX10_power [vL a, vI n] (kl m) (R_J (fun z m' => (m = m') ∧ (-9223372036854775808 ≤ z) ∧ (z < 9223372036854775808))) := by
  refine cg_of (List.mem_of_getElem? (show ae_MT[172]? = some mX10_power from rfl)) (Nat.le_of_ble_eq_true rfl) ?_
  show cg_G V mX10_power d q _ 0 [(0, vL a), (2, vI n)] [] (kl m) 0 0
  refine g_lconst (x := 1) (by decide) rfl ?_
  refine g_lstore_n (n := 3) (lo' := [(0, vL a), (2, vI n)]) rfl rfl ?_
  refine g_iconst rfl ?_
  refine g_istore (n := 5) (lo' := [(3, vL 1), (0, vL a), (2, vI n)]) rfl rfl ?_
  have L5_1 : ∀ (n5_1 : Nat) (s_1 : Int) (i_1 : Int), ((-9223372036854775808) ≤ s_1 ∧ s_1 ≤ 9223372036854775807) → (0 ≤ i_1 ∧ i_1 ≤ 16) → ((16 - i_1).toNat) = n5_1 → cg_G V mX10_power d q (R_J (fun z m' => (m = m') ∧ (-9223372036854775808 ≤ z) ∧ (z < 9223372036854775808))) 5 [(5, vI i_1), (3, vL s_1), (0, vL a), (2, vI n)] [] (kl m) 0 0 := by
    intro n5_1
    induction n5_1 using Nat.strongRecOn with
    | _ n5_1 ih5_1 =>
      intro s_1 i_1 i1 i2 q3
      refine g_iload (n := 5) rfl rfl ?_
      refine g_iload_n (n := 2) rfl rfl ?_
      refine g_icmp_ge (by omega) (by omega) (by omega) (by omega) rfl ?_ ?_
      · intro k4
        refine g_lload_n (n := 3) rfl rfl ?_
        refine g_lret rfl rfl ?_
        exact ⟨_, _, rfl, rfl, (by omega), (by omega)⟩
      · intro k5
        refine g_lload_n (n := 3) rfl rfl ?_
        refine g_lload_n (n := 0) rfl rfl ?_
        refine g_lmul rfl ?_
        refine g_nrmL ?_
        intro z6 h7 h8 h9 h10
        refine g_lstore_n (n := 3) (lo' := [(5, vI i_1), (0, vL a), (2, vI n)]) rfl rfl ?_
        refine g_iinc (n := 5) (lo' := [(3, vL z6), (0, vL a), (2, vI n)]) rfl rfl rfl ?_
        refine g_goto rfl ?_
        exact ih5_1 _ (by omega) z6 (i_1 + 1) (by omega) (by omega) rfl
  exact L5_1 _ 1 0 (by omega) (by omega) rfl
theorem d_power10 {V : cg_V} {d q : Nat} (hd : 0 ≤ d) (hq : 0 ≤ q) {m : kM} (hm : kI m) {a n : Int} (h_a : 10 ≤ a ∧ a ≤ 10) (h_n : 0 ≤ n ∧ n ≤ 16) : cg_S V d q mX10_power [vL a, vI n] (kl m) (R_J (fun z m' => (m = m') ∧ (1 ≤ z) ∧ (z ≤ 10000000000000000))) := by
  refine cg_of (List.mem_of_getElem? (show ae_MT[172]? = some mX10_power from rfl)) (Nat.le_of_ble_eq_true rfl) ?_
  show cg_G V mX10_power d q _ 0 [(0, vL a), (2, vI n)] [] (kl m) 0 0
  have h1 : a = 10 := by omega
  rcases h1 with rfl
  · refine g_lconst (x := 1) (by decide) rfl ?_
    refine g_lstore_n (n := 3) (lo' := [(0, vL 10), (2, vI n)]) rfl rfl ?_
    refine g_iconst rfl ?_
    refine g_istore (n := 5) (lo' := [(3, vL 1), (0, vL 10), (2, vI n)]) rfl rfl ?_
    refine g_iload (n := 5) rfl rfl ?_
    refine g_iload_n (n := 2) rfl rfl ?_
    refine g_icmp_ge (by decide) (by decide) (by omega) (by omega) rfl ?_ ?_
    · intro k2
      refine g_lload_n (n := 3) rfl rfl ?_
      refine g_lret rfl rfl ?_
      exact ⟨_, _, rfl, rfl, (by omega), (by omega)⟩
    · intro k3
      refine g_lload_n (n := 3) rfl rfl ?_
      refine g_lload_n (n := 0) rfl rfl ?_
      refine g_lmul rfl ?_
      refine g_lstore_n (n := 3) (lo' := [(5, vI 0), (0, vL 10), (2, vI n)]) rfl rfl ?_
      refine g_iinc (n := 5) (lo' := [(3, vL (1 * 10)), (0, vL 10), (2, vI n)]) rfl rfl rfl ?_
      refine g_goto rfl ?_
      refine g_iload (n := 5) rfl rfl ?_
      refine g_iload_n (n := 2) rfl rfl ?_
      refine g_icmp_ge (by omega) (by omega) (by omega) (by omega) rfl ?_ ?_
      · intro k4
        refine g_lload_n (n := 3) rfl rfl ?_
        refine g_lret rfl rfl ?_
        exact ⟨_, _, rfl, rfl, (by omega), (by omega)⟩
      · intro k5
        refine g_lload_n (n := 3) rfl rfl ?_
        refine g_lload_n (n := 0) rfl rfl ?_
        refine g_lmul rfl ?_
        refine g_lstore_n (n := 3) (lo' := [(5, vI (0 + 1)), (0, vL 10), (2, vI n)]) rfl rfl ?_
        refine g_iinc (n := 5) (lo' := [(3, vL ((1 * 10) * 10)), (0, vL 10), (2, vI n)]) rfl rfl rfl ?_
        refine g_goto rfl ?_
        refine g_iload (n := 5) rfl rfl ?_
        refine g_iload_n (n := 2) rfl rfl ?_
        refine g_icmp_ge (by omega) (by omega) (by omega) (by omega) rfl ?_ ?_
        · intro k6
          refine g_lload_n (n := 3) rfl rfl ?_
          refine g_lret rfl rfl ?_
          exact ⟨_, _, rfl, rfl, (by omega), (by omega)⟩
        · intro k7
          refine g_lload_n (n := 3) rfl rfl ?_
          refine g_lload_n (n := 0) rfl rfl ?_
          refine g_lmul rfl ?_
          refine g_lstore_n (n := 3) (lo' := [(5, vI ((0 + 1) + 1)), (0, vL 10), (2, vI n)]) rfl rfl ?_
          refine g_iinc (n := 5) (lo' := [(3, vL (((1 * 10) * 10) * 10)), (0, vL 10), (2, vI n)]) rfl rfl rfl ?_
          refine g_goto rfl ?_
          refine g_iload (n := 5) rfl rfl ?_
          refine g_iload_n (n := 2) rfl rfl ?_
          refine g_icmp_ge (by omega) (by omega) (by omega) (by omega) rfl ?_ ?_
          · intro k8
            refine g_lload_n (n := 3) rfl rfl ?_
            refine g_lret rfl rfl ?_
            exact ⟨_, _, rfl, rfl, (by omega), (by omega)⟩
          · intro k9
            refine g_lload_n (n := 3) rfl rfl ?_
            refine g_lload_n (n := 0) rfl rfl ?_
            refine g_lmul rfl ?_
            refine g_lstore_n (n := 3) (lo' := [(5, vI (((0 + 1) + 1) + 1)), (0, vL 10), (2, vI n)]) rfl rfl ?_
            refine g_iinc (n := 5) (lo' := [(3, vL ((((1 * 10) * 10) * 10) * 10)), (0, vL 10), (2, vI n)]) rfl rfl rfl ?_
            refine g_goto rfl ?_
            refine g_iload (n := 5) rfl rfl ?_
            refine g_iload_n (n := 2) rfl rfl ?_
            refine g_icmp_ge (by omega) (by omega) (by omega) (by omega) rfl ?_ ?_
            · intro k10
              refine g_lload_n (n := 3) rfl rfl ?_
              refine g_lret rfl rfl ?_
              exact ⟨_, _, rfl, rfl, (by omega), (by omega)⟩
            · intro k11
              refine g_lload_n (n := 3) rfl rfl ?_
              refine g_lload_n (n := 0) rfl rfl ?_
              refine g_lmul rfl ?_
              refine g_lstore_n (n := 3) (lo' := [(5, vI ((((0 + 1) + 1) + 1) + 1)), (0, vL 10), (2, vI n)]) rfl rfl ?_
              refine g_iinc (n := 5) (lo' := [(3, vL (((((1 * 10) * 10) * 10) * 10) * 10)), (0, vL 10), (2, vI n)]) rfl rfl rfl ?_
              refine g_goto rfl ?_
              refine g_iload (n := 5) rfl rfl ?_
              refine g_iload_n (n := 2) rfl rfl ?_
              refine g_icmp_ge (by omega) (by omega) (by omega) (by omega) rfl ?_ ?_
              · intro k12
                refine g_lload_n (n := 3) rfl rfl ?_
                refine g_lret rfl rfl ?_
                exact ⟨_, _, rfl, rfl, (by omega), (by omega)⟩
              · intro k13
                refine g_lload_n (n := 3) rfl rfl ?_
                refine g_lload_n (n := 0) rfl rfl ?_
                refine g_lmul rfl ?_
                refine g_lstore_n (n := 3) (lo' := [(5, vI (((((0 + 1) + 1) + 1) + 1) + 1)), (0, vL 10), (2, vI n)]) rfl rfl ?_
                refine g_iinc (n := 5) (lo' := [(3, vL ((((((1 * 10) * 10) * 10) * 10) * 10) * 10)), (0, vL 10), (2, vI n)]) rfl rfl rfl ?_
                refine g_goto rfl ?_
                refine g_iload (n := 5) rfl rfl ?_
                refine g_iload_n (n := 2) rfl rfl ?_
                refine g_icmp_ge (by omega) (by omega) (by omega) (by omega) rfl ?_ ?_
                · intro k14
                  refine g_lload_n (n := 3) rfl rfl ?_
                  refine g_lret rfl rfl ?_
                  exact ⟨_, _, rfl, rfl, (by omega), (by omega)⟩
                · intro k15
                  refine g_lload_n (n := 3) rfl rfl ?_
                  refine g_lload_n (n := 0) rfl rfl ?_
                  refine g_lmul rfl ?_
                  refine g_lstore_n (n := 3) (lo' := [(5, vI ((((((0 + 1) + 1) + 1) + 1) + 1) + 1)), (0, vL 10), (2, vI n)]) rfl rfl ?_
                  refine g_iinc (n := 5) (lo' := [(3, vL (((((((1 * 10) * 10) * 10) * 10) * 10) * 10) * 10)), (0, vL 10), (2, vI n)]) rfl rfl rfl ?_
                  refine g_goto rfl ?_
                  refine g_iload (n := 5) rfl rfl ?_
                  refine g_iload_n (n := 2) rfl rfl ?_
                  refine g_icmp_ge (by omega) (by omega) (by omega) (by omega) rfl ?_ ?_
                  · intro k16
                    refine g_lload_n (n := 3) rfl rfl ?_
                    refine g_lret rfl rfl ?_
                    exact ⟨_, _, rfl, rfl, (by omega), (by omega)⟩
                  · intro k17
                    refine g_lload_n (n := 3) rfl rfl ?_
                    refine g_lload_n (n := 0) rfl rfl ?_
                    refine g_lmul rfl ?_
                    refine g_lstore_n (n := 3) (lo' := [(5, vI (((((((0 + 1) + 1) + 1) + 1) + 1) + 1) + 1)), (0, vL 10), (2, vI n)]) rfl rfl ?_
                    refine g_iinc (n := 5) (lo' := [(3, vL ((((((((1 * 10) * 10) * 10) * 10) * 10) * 10) * 10) * 10)), (0, vL 10), (2, vI n)]) rfl rfl rfl ?_
                    refine g_goto rfl ?_
                    refine g_iload (n := 5) rfl rfl ?_
                    refine g_iload_n (n := 2) rfl rfl ?_
                    refine g_icmp_ge (by omega) (by omega) (by omega) (by omega) rfl ?_ ?_
                    · intro k18
                      refine g_lload_n (n := 3) rfl rfl ?_
                      refine g_lret rfl rfl ?_
                      exact ⟨_, _, rfl, rfl, (by omega), (by omega)⟩
                    · intro k19
                      refine g_lload_n (n := 3) rfl rfl ?_
                      refine g_lload_n (n := 0) rfl rfl ?_
                      refine g_lmul rfl ?_
                      refine g_lstore_n (n := 3) (lo' := [(5, vI ((((((((0 + 1) + 1) + 1) + 1) + 1) + 1) + 1) + 1)), (0, vL 10), (2, vI n)]) rfl rfl ?_
                      refine g_iinc (n := 5) (lo' := [(3, vL (((((((((1 * 10) * 10) * 10) * 10) * 10) * 10) * 10) * 10) * 10)), (0, vL 10), (2, vI n)]) rfl rfl rfl ?_
                      refine g_goto rfl ?_
                      refine g_iload (n := 5) rfl rfl ?_
                      refine g_iload_n (n := 2) rfl rfl ?_
                      refine g_icmp_ge (by omega) (by omega) (by omega) (by omega) rfl ?_ ?_
                      · intro k20
                        refine g_lload_n (n := 3) rfl rfl ?_
                        refine g_lret rfl rfl ?_
                        exact ⟨_, _, rfl, rfl, (by omega), (by omega)⟩
                      · intro k21
                        refine g_lload_n (n := 3) rfl rfl ?_
                        refine g_lload_n (n := 0) rfl rfl ?_
                        refine g_lmul rfl ?_
                        refine g_lstore_n (n := 3) (lo' := [(5, vI (((((((((0 + 1) + 1) + 1) + 1) + 1) + 1) + 1) + 1) + 1)), (0, vL 10), (2, vI n)]) rfl rfl ?_
                        refine g_iinc (n := 5) (lo' := [(3, vL ((((((((((1 * 10) * 10) * 10) * 10) * 10) * 10) * 10) * 10) * 10) * 10)), (0, vL 10), (2, vI n)]) rfl rfl rfl ?_
                        refine g_goto rfl ?_
                        refine g_iload (n := 5) rfl rfl ?_
                        refine g_iload_n (n := 2) rfl rfl ?_
                        refine g_icmp_ge (by omega) (by omega) (by omega) (by omega) rfl ?_ ?_
                        · intro k22
                          refine g_lload_n (n := 3) rfl rfl ?_
                          refine g_lret rfl rfl ?_
                          exact ⟨_, _, rfl, rfl, (by omega), (by omega)⟩
                        · intro k23
                          refine g_lload_n (n := 3) rfl rfl ?_
                          refine g_lload_n (n := 0) rfl rfl ?_
                          refine g_lmul rfl ?_
                          refine g_lstore_n (n := 3) (lo' := [(5, vI ((((((((((0 + 1) + 1) + 1) + 1) + 1) + 1) + 1) + 1) + 1) + 1)), (0, vL 10), (2, vI n)]) rfl rfl ?_
                          refine g_iinc (n := 5) (lo' := [(3, vL (((((((((((1 * 10) * 10) * 10) * 10) * 10) * 10) * 10) * 10) * 10) * 10) * 10)), (0, vL 10), (2, vI n)]) rfl rfl rfl ?_
                          refine g_goto rfl ?_
                          refine g_iload (n := 5) rfl rfl ?_
                          refine g_iload_n (n := 2) rfl rfl ?_
                          refine g_icmp_ge (by omega) (by omega) (by omega) (by omega) rfl ?_ ?_
                          · intro k24
                            refine g_lload_n (n := 3) rfl rfl ?_
                            refine g_lret rfl rfl ?_
                            exact ⟨_, _, rfl, rfl, (by omega), (by omega)⟩
                          · intro k25
                            refine g_lload_n (n := 3) rfl rfl ?_
                            refine g_lload_n (n := 0) rfl rfl ?_
                            refine g_lmul rfl ?_
                            refine g_lstore_n (n := 3) (lo' := [(5, vI (((((((((((0 + 1) + 1) + 1) + 1) + 1) + 1) + 1) + 1) + 1) + 1) + 1)), (0, vL 10), (2, vI n)]) rfl rfl ?_
                            refine g_iinc (n := 5) (lo' := [(3, vL ((((((((((((1 * 10) * 10) * 10) * 10) * 10) * 10) * 10) * 10) * 10) * 10) * 10) * 10)), (0, vL 10), (2, vI n)]) rfl rfl rfl ?_
                            refine g_goto rfl ?_
                            refine g_iload (n := 5) rfl rfl ?_
                            refine g_iload_n (n := 2) rfl rfl ?_
                            refine g_icmp_ge (by omega) (by omega) (by omega) (by omega) rfl ?_ ?_
                            · intro k26
                              refine g_lload_n (n := 3) rfl rfl ?_
                              refine g_lret rfl rfl ?_
                              exact ⟨_, _, rfl, rfl, (by omega), (by omega)⟩
                            · intro k27
                              refine g_lload_n (n := 3) rfl rfl ?_
                              refine g_lload_n (n := 0) rfl rfl ?_
                              refine g_lmul rfl ?_
                              refine g_lstore_n (n := 3) (lo' := [(5, vI ((((((((((((0 + 1) + 1) + 1) + 1) + 1) + 1) + 1) + 1) + 1) + 1) + 1) + 1)), (0, vL 10), (2, vI n)]) rfl rfl ?_
                              refine g_iinc (n := 5) (lo' := [(3, vL (((((((((((((1 * 10) * 10) * 10) * 10) * 10) * 10) * 10) * 10) * 10) * 10) * 10) * 10) * 10)), (0, vL 10), (2, vI n)]) rfl rfl rfl ?_
                              refine g_goto rfl ?_
                              refine g_iload (n := 5) rfl rfl ?_
                              refine g_iload_n (n := 2) rfl rfl ?_
                              refine g_icmp_ge (by omega) (by omega) (by omega) (by omega) rfl ?_ ?_
                              · intro k28
                                refine g_lload_n (n := 3) rfl rfl ?_
                                refine g_lret rfl rfl ?_
                                exact ⟨_, _, rfl, rfl, (by omega), (by omega)⟩
                              · intro k29
                                refine g_lload_n (n := 3) rfl rfl ?_
                                refine g_lload_n (n := 0) rfl rfl ?_
                                refine g_lmul rfl ?_
                                refine g_lstore_n (n := 3) (lo' := [(5, vI (((((((((((((0 + 1) + 1) + 1) + 1) + 1) + 1) + 1) + 1) + 1) + 1) + 1) + 1) + 1)), (0, vL 10), (2, vI n)]) rfl rfl ?_
                                refine g_iinc (n := 5) (lo' := [(3, vL ((((((((((((((1 * 10) * 10) * 10) * 10) * 10) * 10) * 10) * 10) * 10) * 10) * 10) * 10) * 10) * 10)), (0, vL 10), (2, vI n)]) rfl rfl rfl ?_
                                refine g_goto rfl ?_
                                refine g_iload (n := 5) rfl rfl ?_
                                refine g_iload_n (n := 2) rfl rfl ?_
                                refine g_icmp_ge (by omega) (by omega) (by omega) (by omega) rfl ?_ ?_
                                · intro k30
                                  refine g_lload_n (n := 3) rfl rfl ?_
                                  refine g_lret rfl rfl ?_
                                  exact ⟨_, _, rfl, rfl, (by omega), (by omega)⟩
                                · intro k31
                                  refine g_lload_n (n := 3) rfl rfl ?_
                                  refine g_lload_n (n := 0) rfl rfl ?_
                                  refine g_lmul rfl ?_
                                  refine g_lstore_n (n := 3) (lo' := [(5, vI ((((((((((((((0 + 1) + 1) + 1) + 1) + 1) + 1) + 1) + 1) + 1) + 1) + 1) + 1) + 1) + 1)), (0, vL 10), (2, vI n)]) rfl rfl ?_
                                  refine g_iinc (n := 5) (lo' := [(3, vL (((((((((((((((1 * 10) * 10) * 10) * 10) * 10) * 10) * 10) * 10) * 10) * 10) * 10) * 10) * 10) * 10) * 10)), (0, vL 10), (2, vI n)]) rfl rfl rfl ?_
                                  refine g_goto rfl ?_
                                  refine g_iload (n := 5) rfl rfl ?_
                                  refine g_iload_n (n := 2) rfl rfl ?_
                                  refine g_icmp_ge (by omega) (by omega) (by omega) (by omega) rfl ?_ ?_
                                  · intro k32
                                    refine g_lload_n (n := 3) rfl rfl ?_
                                    refine g_lret rfl rfl ?_
                                    exact ⟨_, _, rfl, rfl, (by omega), (by omega)⟩
                                  · intro k33
                                    refine g_lload_n (n := 3) rfl rfl ?_
                                    refine g_lload_n (n := 0) rfl rfl ?_
                                    refine g_lmul rfl ?_
                                    refine g_lstore_n (n := 3) (lo' := [(5, vI (((((((((((((((0 + 1) + 1) + 1) + 1) + 1) + 1) + 1) + 1) + 1) + 1) + 1) + 1) + 1) + 1) + 1)), (0, vL 10), (2, vI n)]) rfl rfl ?_
                                    refine g_iinc (n := 5) (lo' := [(3, vL ((((((((((((((((1 * 10) * 10) * 10) * 10) * 10) * 10) * 10) * 10) * 10) * 10) * 10) * 10) * 10) * 10) * 10) * 10)), (0, vL 10), (2, vI n)]) rfl rfl rfl ?_
                                    refine g_goto rfl ?_
                                    refine g_iload (n := 5) rfl rfl ?_
                                    refine g_iload_n (n := 2) rfl rfl ?_
                                    refine g_icmp_ge (by omega) (by omega) (by omega) (by omega) rfl ?_ ?_
                                    · intro k34
                                      refine g_lload_n (n := 3) rfl rfl ?_
                                      refine g_lret rfl rfl ?_
                                      exact ⟨_, _, rfl, rfl, (by omega), (by omega)⟩
                                    · intro k35
                                      exfalso; omega
theorem d_divisor {V : cg_V} {d q : Nat} (hd : 0 ≤ d) (hq : 0 ≤ q) {m : kM} (hm : kI m) {a b : Int} (h_a : (-9223372036854775808) ≤ a ∧ a ≤ 9223372036854775807) (h_b : (-9223372036854775808) ≤ b ∧ b ≤ 9223372036854775807) (h_n : b ≠ 0) : cg_S V d q mX10_divisor [vL a, vL b] (kl m) (R_J (fun z m' => (m = m') ∧ (-9223372036854775808 ≤ z) ∧ (z < 9223372036854775808) ∧ (z ≠ 0))) := by
  refine cg_of (List.mem_of_getElem? (show ae_MT[171]? = some mX10_divisor from rfl)) (Nat.le_of_ble_eq_true rfl) ?_
  show cg_G V mX10_divisor d q _ 0 [(0, vL a), (2, vL b)] [] (kl m) 0 0
  refine g_lload_n (n := 0) rfl rfl ?_
  refine g_lstore (n := 4) (lo' := [(0, vL a), (2, vL b)]) rfl rfl ?_
  refine g_lload_n (n := 2) rfl rfl ?_
  refine g_lstore (n := 6) (lo' := [(4, vL a), (0, vL a), (2, vL b)]) rfl rfl ?_
  have L6_1 : ∀ (n6_1 : Nat) (x_1 : Int) (y_1 : Int), ((-9223372036854775808) ≤ x_1 ∧ x_1 ≤ 9223372036854775807) → ((-9223372036854775808) ≤ y_1 ∧ y_1 ≤ 9223372036854775807) → (x_1 ≠ 0 ∨ y_1 ≠ 0) → y_1.natAbs = n6_1 → cg_G V mX10_divisor d q (R_J (fun z m' => (m = m') ∧ (-9223372036854775808 ≤ z) ∧ (z < 9223372036854775808) ∧ (z ≠ 0))) 6 [(6, vL y_1), (4, vL x_1), (0, vL a), (2, vL b)] [] (kl m) 0 0 := by
    intro n6_1
    induction n6_1 using Nat.strongRecOn with
    | _ n6_1 ih6_1 =>
      intro x_1 y_1 i1 i2 i3 q4
      refine g_lload (n := 6) rfl rfl ?_
      refine g_lconst (x := 0) (by decide) rfl ?_
      refine g_lcmp (by omega) (by omega) (by decide) (by decide) rfl ?_
      intro z5 h6
      refine g_if_eq (by omega) (by omega) rfl ?_ ?_
      · intro k7
        refine g_lload (n := 4) rfl rfl ?_
        refine g_lret rfl rfl ?_
        exact ⟨_, _, rfl, rfl, (by omega), (by omega), (by omega)⟩
      · intro k8
        refine g_lload (n := 4) rfl rfl ?_
        refine g_lload (n := 6) rfl rfl ?_
        refine g_lremA (by omega) (by omega) (by omega) (by omega) (by omega) rfl ?_
        intro z9 h10 h11 h12
        refine g_lstore (n := 8) (lo' := [(6, vL y_1), (4, vL x_1), (0, vL a), (2, vL b)]) rfl rfl ?_
        refine g_lload (n := 6) rfl rfl ?_
        refine g_lstore (n := 4) (lo' := [(8, vL z9), (6, vL y_1), (0, vL a), (2, vL b)]) rfl rfl ?_
        refine g_lload (n := 8) rfl rfl ?_
        refine g_lstore (n := 6) (lo' := [(4, vL y_1), (8, vL z9), (0, vL a), (2, vL b)]) rfl rfl ?_
        refine g_goto rfl ?_
        refine g_pick (lo' := [(6, vL z9), (4, vL y_1), (0, vL a), (2, vL b)]) [0, 1, 3, 4] rfl ?_
        exact ih6_1 _ (by omega) y_1 z9 (by omega) (by omega) (by omega) rfl
  exact L6_1 _ a b (by omega) (by omega) (by omega) rfl
theorem d_erase {V : cg_V} {d q : Nat} (hd : 0 ≤ d) (hq : 0 ≤ q) {m : kM} (hm : kI m) : cg_S V d q mX10_erase [vR 61] (kl m) (R_I (fun z m' => (kI m') ∧ (fr [23] [] m m') ∧ (z = m.1 23) ∧ (m'.1 23 = 0))) := by
  have hf0 : fr [23] [] m m := fr_rf m
  refine cg_of (List.mem_of_getElem? (show ae_MT[123]? = some mX10_erase from rfl)) (Nat.le_of_ble_eq_true rfl) ?_
  show cg_G V mX10_erase d q _ 0 [(0, vR 61)] [] (kl m) 0 0
  have h1 : 0 ≤ m.1 23 ∧ m.1 23 ≤ 200 := hm.1 23
  refine g_aload_n (n := 0) rfl rfl ?_
  refine g_getf (v := vI (m.1 23)) rfl (kl_61 _) rfl ?_
  refine g_istore_n (n := 1) (lo' := [(0, vR 61)]) rfl rfl ?_
  refine g_aload_n (n := 0) rfl rfl ?_
  refine g_iconst rfl ?_
  refine g_putF (m' := (kF m 23 0)) rfl (kl_61 _) rfl rfl rfl rfl (kF_23 _ _) ?_
  have hm2 : kI (kF m 23 0) := kI_F hm 23 (show (0 : Int) ≤ 0 by omega) (show 0 ≤ (200 : Int) by omega)
  have hf3 : fr [23] [] m (kF m 23 0) := fr_F hf0 23 _ rfl
  refine g_iload_n (n := 1) rfl rfl ?_
  refine g_iret rfl rfl ?_
  exact ⟨_, _, rfl, hm2, hf3, (by omega), rfl⟩
theorem d_row {V : cg_V} {d q : Nat} (hd : 2 ≤ d) (hq : 45 ≤ q) {m : kM} (hm : kI m) {c : Int} (h_c : (-2147483648) ≤ c ∧ c ≤ 2147483647) : cg_S V d q mX10_row [vR 61, vI c] (kl m) (R_I (fun z m' => (kI m') ∧ (fr [38] [72] m m') ∧ (-5 ≤ z) ∧ (z ≤ 20))) := by
  have hf0 : fr [38] [72] m m := fr_rf m
  refine cg_of (List.mem_of_getElem? (show ae_MT[175]? = some mX10_row from rfl)) (Nat.le_of_ble_eq_true rfl) ?_
  show cg_G V mX10_row d q _ 0 [(0, vR 61), (1, vI c)] [] (kl m) 0 0
  refine g_iload_n (n := 1) rfl rfl ?_
  refine c_sI (ps := [vI c]) (r := []) (as := [vI c]) (cs' := 0) (sl' := 0) rfl rfl rfl rfl rfl rfl (d_isCode (d := d - 1) (q := q - (1 + 19)) (by omega) (by omega) hm (a := c) (show (-2147483648) ≤ c ∧ c ≤ 2147483647 by omega)) (by omega) (show 1 + 19 ≤ q by omega) (Nat.le_of_ble_eq_true rfl) (Nat.le_of_ble_eq_true rfl) rfl rfl rfl ?_
  rintro z1 m2 ⟨rfl, p4⟩
  refine g_if_ne (by omega) (by omega) rfl ?_ ?_
  · intro k5
    refine g_aload_n (n := 0) rfl rfl ?_
    have h6 : 0 ≤ m.1 38 ∧ m.1 38 ≤ 20 := hm.1 38
    refine g_getf (v := vI (m.1 38)) rfl (kl_61 _) rfl ?_
    refine g_bipush (by decide) rfl ?_
    refine g_icmp_ne (by omega) (by omega) (by decide) (by decide) rfl ?_ ?_
    · intro k7
      refine g_aload_n (n := 0) rfl rfl ?_
      refine g_getf (v := vR 72) rfl (kl_61 _) rfl ?_
      refine g_aload_n (n := 0) rfl rfl ?_
      refine g_getf (v := vI (m.1 38)) rfl (kl_61 _) rfl ?_
      refine g_iload_n (n := 1) rfl rfl ?_
      refine g_iAst (f := m.2.1 72) (m' := (kA m 72 (up (m.2.1 72) (m.1 38) c))) rfl (kl_72 _) (by decide) (by omega) (by omega) (kA_72 _ _) ?_
      have hm8 : kI (kA m 72 (up (m.2.1 72) (m.1 38) c)) := kI_U hm 72 rfl (show (0 : Int) ≤ c by omega) (show c ≤ (99 : Int) by omega)
      have hf9 : fr [38] [72] m (kA m 72 (up (m.2.1 72) (m.1 38) c)) := fr_A hf0 72 _ rfl
      refine g_aload_n (n := 0) rfl rfl ?_
      refine g_dup rfl rfl ?_
      refine g_getf (v := vI (m.1 38)) rfl (kl_61 _) rfl ?_
      refine g_iconst rfl ?_
      refine g_iadd rfl ?_
      refine g_putF (m' := (kF (kA m 72 (up (m.2.1 72) (m.1 38) c)) 38 (m.1 38 + 1))) rfl (kl_61 _) rfl rfl rfl rfl (kF_38 _ _) ?_
      have hm10 : kI (kF (kA m 72 (up (m.2.1 72) (m.1 38) c)) 38 (m.1 38 + 1)) := kI_F hm8 38 (show (0 : Int) ≤ (m.1 38 + 1) by omega) (show (m.1 38 + 1) ≤ (20 : Int) by omega)
      have hf11 : fr [38] [72] m (kF (kA m 72 (up (m.2.1 72) (m.1 38) c)) 38 (m.1 38 + 1)) := fr_F hf9 38 _ rfl
      refine g_aload_n (n := 0) rfl rfl ?_
      refine g_getf (v := vI (m.1 38 + 1)) rfl (kl_61 _) rfl ?_
      refine g_iret rfl rfl ?_
      exact ⟨_, _, rfl, hm10, hf11, (by omega), (by omega)⟩
    · intro k12
      refine g_bipush (by decide) rfl ?_
      refine g_iret rfl rfl ?_
      exact ⟨_, _, rfl, hm, hf0, (by omega), (by omega)⟩
  · intro k13
    refine g_bipush (by decide) rfl ?_
    refine g_iret rfl rfl ?_
    exact ⟨_, _, rfl, hm, hf0, (by omega), (by omega)⟩
theorem d_burn {V : cg_V} {d q : Nat} (hd : 0 ≤ d) (hq : 0 ≤ q) {m : kM} (hm : kI m) : cg_S V d q mX10_burn [vR 61] (kl m) (R_I (fun z m' => (kI m') ∧ (fr [38] [] m m') ∧ (0 ≤ z) ∧ (z ≤ 20))) := by
  have hf0 : fr [38] [] m m := fr_rf m
  refine cg_of (List.mem_of_getElem? (show ae_MT[176]? = some mX10_burn from rfl)) (Nat.le_of_ble_eq_true rfl) ?_
  show cg_G V mX10_burn d q _ 0 [(0, vR 61)] [] (kl m) 0 0
  refine g_aload_n (n := 0) rfl rfl ?_
  have h1 : 0 ≤ m.1 38 ∧ m.1 38 ≤ 20 := hm.1 38
  refine g_getf (v := vI (m.1 38)) rfl (kl_61 _) rfl ?_
  refine g_istore_n (n := 1) (lo' := [(0, vR 61)]) rfl rfl ?_
  refine g_aload_n (n := 0) rfl rfl ?_
  refine g_iconst rfl ?_
  refine g_putF (m' := (kF m 38 0)) rfl (kl_61 _) rfl rfl rfl rfl (kF_38 _ _) ?_
  have hm2 : kI (kF m 38 0) := kI_F hm 38 (show (0 : Int) ≤ 0 by omega) (show 0 ≤ (20 : Int) by omega)
  have hf3 : fr [38] [] m (kF m 38 0) := fr_F hf0 38 _ rfl
  refine g_iload_n (n := 1) rfl rfl ?_
  refine g_iret rfl rfl ?_
  exact ⟨_, _, rfl, hm2, hf3, (by omega), (by omega)⟩
theorem d_heard {V : cg_V} {d q : Nat} (hd : 2 ≤ d) (hq : 46 ≤ q) {m : kM} (hm : kI m) {t a : Int} (h_t : (-2147483648) ≤ t ∧ t ≤ 2147483647) (h_a : (-2147483648) ≤ a ∧ a ≤ 2147483647) : cg_S V d q mX10_heard [vR 61, vI t, vI a] (kl m) (R_I (fun z m' => (kI m') ∧ (fr [39] [73] m m') ∧ (((0 ≤ a ∧ a < m.1 26 ∧ 0 ≤ t ∧ t ≤ 9 ∧ m.1 39 < 8) ∧ m'.1 39 = m.1 39 + 1 ∧ z = m.1 39 + 1) ∨ ((a < 0 ∨ m.1 26 ≤ a) ∧ m'.1 39 = m.1 39 ∧ z = -2) ∨ ((0 ≤ a ∧ a < m.1 26 ∧ (t < 0 ∨ 9 < t)) ∧ m'.1 39 = m.1 39 ∧ z = -3) ∨ ((0 ≤ a ∧ a < m.1 26 ∧ 0 ≤ t ∧ t ≤ 9 ∧ m.1 39 = 8) ∧ m'.1 39 = m.1 39 ∧ z = -5)))) := by
  have hf0 : fr [39] [73] m m := fr_rf m
  refine cg_of (List.mem_of_getElem? (show ae_MT[178]? = some mX10_heard from rfl)) (Nat.le_of_ble_eq_true rfl) ?_
  show cg_G V mX10_heard d q _ 0 [(0, vR 61), (1, vI t), (2, vI a)] [] (kl m) 0 0
  have h1 : 0 ≤ m.1 26 ∧ m.1 26 ≤ 10 := hm.1 26
  have h2 : 0 ≤ m.1 39 ∧ m.1 39 ≤ 8 := hm.1 39
  refine g_aload_n (n := 0) rfl rfl ?_
  refine g_iload_n (n := 2) rfl rfl ?_
  refine c_vI (i := 61) (ps := [vI a]) (r := []) (as := [vR 61, vI a]) (cs' := 0) (sl' := 0) rfl rfl rfl rfl rfl rfl (kl_61 _) (d_isDoor (d := d - 1) (q := q - (2 + 19)) (by omega) (by omega) hm (a := a) (show (-2147483648) ≤ a ∧ a ≤ 2147483647 by omega)) (by omega) (show 2 + 19 ≤ q by omega) (Nat.le_of_ble_eq_true rfl) (Nat.le_of_ble_eq_true rfl) rfl rfl rfl ?_
  rintro z3 m4 ⟨rfl, p6⟩
  refine g_if_ne (by omega) (by omega) rfl ?_ ?_
  · intro k7
    refine g_iload_n (n := 1) rfl rfl ?_
    refine g_i2l (by omega) (by omega) rfl ?_
    refine g_lconst (x := 0) (by decide) rfl ?_
    refine g_ldc2 (x := 9) (by decide) rfl ?_
    refine c_sI (ps := [vL 9, vL 0, vL t]) (r := []) (as := [vL t, vL 0, vL 9]) (cs' := 0) (sl' := 0) rfl rfl rfl rfl rfl rfl (d_in (d := d - 1) (q := q - (6 + 19)) (by omega) (by omega) hm (a := t) (b := 0) (c := 9) (show (-9223372036854775808) ≤ t ∧ t ≤ 9223372036854775807 by omega) (show (-9223372036854775808) ≤ 0 ∧ 0 ≤ 9223372036854775807 by omega) (show (-9223372036854775808) ≤ 9 ∧ 9 ≤ 9223372036854775807 by omega)) (by omega) (show 6 + 19 ≤ q by omega) (Nat.le_of_ble_eq_true rfl) (Nat.le_of_ble_eq_true rfl) rfl rfl rfl ?_
    rintro z8 m9 ⟨rfl, p11⟩
    refine g_if_ne (by omega) (by omega) rfl ?_ ?_
    · intro k12
      refine g_aload_n (n := 0) rfl rfl ?_
      refine g_getf (v := vI (m.1 39)) rfl (kl_61 _) rfl ?_
      refine g_bipush (by decide) rfl ?_
      refine g_icmp_ne (by omega) (by omega) (by decide) (by decide) rfl ?_ ?_
      · intro k13
        refine g_aload_n (n := 0) rfl rfl ?_
        refine g_getf (v := vR 73) rfl (kl_61 _) rfl ?_
        refine g_iconst rfl ?_
        refine g_aload_n (n := 0) rfl rfl ?_
        refine g_getf (v := vI (m.1 39)) rfl (kl_61 _) rfl ?_
        refine g_imul rfl ?_
        refine g_iload_n (n := 1) rfl rfl ?_
        refine g_iAst (f := m.2.1 73) (m' := (kA m 73 (up (m.2.1 73) (2 * m.1 39) t))) rfl (kl_73 _) (by decide) (by omega) (by omega) (kA_73 _ _) ?_
        have hm14 : kI (kA m 73 (up (m.2.1 73) (2 * m.1 39) t)) := kI_U hm 73 rfl (show ((-2147483648) : Int) ≤ t by omega) (show t ≤ (2147483647 : Int) by omega)
        have hf15 : fr [39] [73] m (kA m 73 (up (m.2.1 73) (2 * m.1 39) t)) := fr_A hf0 73 _ rfl
        refine g_aload_n (n := 0) rfl rfl ?_
        refine g_getf (v := vR 73) rfl (kl_61 _) rfl ?_
        refine g_iconst rfl ?_
        refine g_aload_n (n := 0) rfl rfl ?_
        refine g_getf (v := vI (m.1 39)) rfl (kl_61 _) rfl ?_
        refine g_imul rfl ?_
        refine g_iconst rfl ?_
        refine g_iadd rfl ?_
        refine g_iload_n (n := 2) rfl rfl ?_
        refine g_iAst (f := up (m.2.1 73) (2 * m.1 39) t) (m' := (kA (kA m 73 (up (m.2.1 73) (2 * m.1 39) t)) 73 (up (up (m.2.1 73) (2 * m.1 39) t) ((2 * m.1 39) + 1) a))) rfl (kl_73 _) (by decide) (by omega) (by omega) (kA_73 _ _) ?_
        have hm16 : kI (kA (kA m 73 (up (m.2.1 73) (2 * m.1 39) t)) 73 (up (up (m.2.1 73) (2 * m.1 39) t) ((2 * m.1 39) + 1) a)) := kI_U hm14 73 rfl (show ((-2147483648) : Int) ≤ a by omega) (show a ≤ (2147483647 : Int) by omega)
        have hf17 : fr [39] [73] m (kA (kA m 73 (up (m.2.1 73) (2 * m.1 39) t)) 73 (up (up (m.2.1 73) (2 * m.1 39) t) ((2 * m.1 39) + 1) a)) := fr_A hf15 73 _ rfl
        refine g_aload_n (n := 0) rfl rfl ?_
        refine g_dup rfl rfl ?_
        refine g_getf (v := vI (m.1 39)) rfl (kl_61 _) rfl ?_
        refine g_iconst rfl ?_
        refine g_iadd rfl ?_
        refine g_putF (m' := (kF (kA (kA m 73 (up (m.2.1 73) (2 * m.1 39) t)) 73 (up (up (m.2.1 73) (2 * m.1 39) t) ((2 * m.1 39) + 1) a)) 39 (m.1 39 + 1))) rfl (kl_61 _) rfl rfl rfl rfl (kF_39 _ _) ?_
        have hm18 : kI (kF (kA (kA m 73 (up (m.2.1 73) (2 * m.1 39) t)) 73 (up (up (m.2.1 73) (2 * m.1 39) t) ((2 * m.1 39) + 1) a)) 39 (m.1 39 + 1)) := kI_F hm16 39 (show (0 : Int) ≤ (m.1 39 + 1) by omega) (show (m.1 39 + 1) ≤ (8 : Int) by omega)
        have hf19 : fr [39] [73] m (kF (kA (kA m 73 (up (m.2.1 73) (2 * m.1 39) t)) 73 (up (up (m.2.1 73) (2 * m.1 39) t) ((2 * m.1 39) + 1) a)) 39 (m.1 39 + 1)) := fr_F hf17 39 _ rfl
        refine g_aload_n (n := 0) rfl rfl ?_
        refine g_getf (v := vI (m.1 39 + 1)) rfl (kl_61 _) rfl ?_
        refine g_iret rfl rfl ?_
        exact ⟨_, _, rfl, hm18, hf19, (by first | (refine Or.inl ⟨by omega, ?_, by omega⟩; show m.1 39 + 1 = m.1 39 + 1; omega) | omega)⟩
      · intro k20
        refine g_bipush (by decide) rfl ?_
        refine g_iret rfl rfl ?_
        exact ⟨_, _, rfl, hm, hf0, (by first | (refine Or.inl ⟨by omega, ?_, by omega⟩; show m.1 39 + 1 = m.1 39 + 1; omega) | omega)⟩
    · intro k21
      refine g_bipush (by decide) rfl ?_
      refine g_iret rfl rfl ?_
      exact ⟨_, _, rfl, hm, hf0, (by first | (refine Or.inl ⟨by omega, ?_, by omega⟩; show m.1 39 + 1 = m.1 39 + 1; omega) | omega)⟩
  · intro k22
    refine g_bipush (by decide) rfl ?_
    refine g_iret rfl rfl ?_
    exact ⟨_, _, rfl, hm, hf0, (by first | (refine Or.inl ⟨by omega, ?_, by omega⟩; show m.1 39 + 1 = m.1 39 + 1; omega) | omega)⟩
theorem d_forget {V : cg_V} {d q : Nat} (hd : 0 ≤ d) (hq : 0 ≤ q) {m : kM} (hm : kI m) : cg_S V d q mX10_forget [vR 61] (kl m) (R_I (fun z m' => (kI m') ∧ (fr [39] [] m m') ∧ (z = m.1 39) ∧ (m'.1 39 = 0))) := by
  have hf0 : fr [39] [] m m := fr_rf m
  refine cg_of (List.mem_of_getElem? (show ae_MT[179]? = some mX10_forget from rfl)) (Nat.le_of_ble_eq_true rfl) ?_
  show cg_G V mX10_forget d q _ 0 [(0, vR 61)] [] (kl m) 0 0
  have h1 : 0 ≤ m.1 39 ∧ m.1 39 ≤ 8 := hm.1 39
  refine g_aload_n (n := 0) rfl rfl ?_
  refine g_getf (v := vI (m.1 39)) rfl (kl_61 _) rfl ?_
  refine g_istore_n (n := 1) (lo' := [(0, vR 61)]) rfl rfl ?_
  refine g_aload_n (n := 0) rfl rfl ?_
  refine g_iconst rfl ?_
  refine g_putF (m' := (kF m 39 0)) rfl (kl_61 _) rfl rfl rfl rfl (kF_39 _ _) ?_
  have hm2 : kI (kF m 39 0) := kI_F hm 39 (show (0 : Int) ≤ 0 by omega) (show 0 ≤ (8 : Int) by omega)
  have hf3 : fr [39] [] m (kF m 39 0) := fr_F hf0 39 _ rfl
  refine g_iload_n (n := 1) rfl rfl ?_
  refine g_iret rfl rfl ?_
  exact ⟨_, _, rfl, hm2, hf3, (by omega), rfl⟩
theorem d_fits {V : cg_V} {d q : Nat} (hd : 0 ≤ d) (hq : 0 ≤ q) {m : kM} (hm : kI m) {t e : Int} (h_t : (-2147483648) ≤ t ∧ t ≤ 2147483647) (h_e : (-2147483648) ≤ e ∧ e ≤ 2147483647) : cg_S V d q mX10_fits [vR 61, vI t, vI e] (kl m) (R_I (fun z m' => (m = m') ∧ (z = 0 ∨ z = 1))) := by
  refine cg_of (List.mem_of_getElem? (show ae_MT[180]? = some mX10_fits from rfl)) (Nat.le_of_ble_eq_true rfl) ?_
  show cg_G V mX10_fits d q _ 0 [(0, vR 61), (1, vI t), (2, vI e)] [] (kl m) 0 0
  refine g_iconst rfl ?_
  refine g_istore_n (n := 3) (lo' := [(0, vR 61), (1, vI t), (2, vI e)]) rfl rfl ?_
  refine g_iconst rfl ?_
  refine g_istore (n := 4) (lo' := [(3, vI 1), (0, vR 61), (1, vI t), (2, vI e)]) rfl rfl ?_
  have L5_1 : ∀ (n5_1 : Nat) (b_1 : Int) (i_1 : Int), (0 ≤ b_1 ∧ b_1 ≤ 1) → (0 ≤ i_1 ∧ i_1 ≤ 8) → ((8 - i_1).toNat) = n5_1 → cg_G V mX10_fits d q (R_I (fun z m' => (m = m') ∧ (z = 0 ∨ z = 1))) 5 [(4, vI i_1), (3, vI b_1), (0, vR 61), (1, vI t), (2, vI e)] [] (kl m) 0 0 := by
    intro n5_1
    induction n5_1 using Nat.strongRecOn with
    | _ n5_1 ih5_1 =>
      intro b_1 i_1 i1 i2 q3
      refine g_iload (n := 4) rfl rfl ?_
      refine g_aload_n (n := 0) rfl rfl ?_
      have h4 : 0 ≤ m.1 39 ∧ m.1 39 ≤ 8 := hm.1 39
      refine g_getf (v := vI (m.1 39)) rfl (kl_61 _) rfl ?_
      refine g_icmp_ge (by omega) (by omega) (by omega) (by omega) rfl ?_ ?_
      · intro k5
        refine g_iload_n (n := 3) rfl rfl ?_
        refine g_zret rfl rfl (by omega) ?_
        exact ⟨_, _, rfl, rfl, (by omega)⟩
      · intro k6
        refine g_iload_n (n := 3) rfl rfl ?_
        refine g_if_eq (by omega) (by omega) rfl ?_ ?_
        · intro k7
          refine g_iconst rfl ?_
          refine g_istore_n (n := 3) (lo' := [(4, vI i_1), (0, vR 61), (1, vI t), (2, vI e)]) rfl rfl ?_
          refine g_iinc (n := 4) (lo' := [(3, vI 0), (0, vR 61), (1, vI t), (2, vI e)]) rfl rfl rfl ?_
          refine g_goto rfl ?_
          exact ih5_1 _ (by omega) 0 (i_1 + 1) (by omega) (by omega) rfl
        · intro k8
          refine g_aload_n (n := 0) rfl rfl ?_
          refine g_getf (v := vR 73) rfl (kl_61 _) rfl ?_
          refine g_iconst rfl ?_
          refine g_iload (n := 4) rfl rfl ?_
          refine g_imul rfl ?_
          have h9 : (-2147483648) ≤ m.2.1 73 (2 * i_1) ∧ m.2.1 73 (2 * i_1) ≤ 2147483647 := hm.2 73 (2 * i_1) (by omega) (show (2 * i_1) < (16 : Int) by omega)
          refine g_iald (f := m.2.1 73) rfl (kl_73 _) (by decide) (by omega) (by omega) ?_
          refine g_iload_n (n := 1) rfl rfl ?_
          refine g_icmp_ne (by omega) (by omega) (by omega) (by omega) rfl ?_ ?_
          · intro k10
            refine g_iconst rfl ?_
            refine g_goto rfl ?_
            refine g_istore_n (n := 3) (lo' := [(4, vI i_1), (0, vR 61), (1, vI t), (2, vI e)]) rfl rfl ?_
            refine g_iinc (n := 4) (lo' := [(3, vI 1), (0, vR 61), (1, vI t), (2, vI e)]) rfl rfl rfl ?_
            refine g_goto rfl ?_
            exact ih5_1 _ (by omega) 1 (i_1 + 1) (by omega) (by omega) rfl
          · intro k11
            refine g_aload_n (n := 0) rfl rfl ?_
            refine g_getf (v := vR 73) rfl (kl_61 _) rfl ?_
            refine g_iconst rfl ?_
            refine g_iload (n := 4) rfl rfl ?_
            refine g_imul rfl ?_
            refine g_iconst rfl ?_
            refine g_iadd rfl ?_
            have h12 : (-2147483648) ≤ m.2.1 73 ((2 * i_1) + 1) ∧ m.2.1 73 ((2 * i_1) + 1) ≤ 2147483647 := hm.2 73 ((2 * i_1) + 1) (by omega) (show ((2 * i_1) + 1) < (16 : Int) by omega)
            refine g_iald (f := m.2.1 73) rfl (kl_73 _) (by decide) (by omega) (by omega) ?_
            refine g_iload_n (n := 2) rfl rfl ?_
            refine g_icmp_ne (by omega) (by omega) (by omega) (by omega) rfl ?_ ?_
            · intro k13
              refine g_iconst rfl ?_
              refine g_istore_n (n := 3) (lo' := [(4, vI i_1), (0, vR 61), (1, vI t), (2, vI e)]) rfl rfl ?_
              refine g_iinc (n := 4) (lo' := [(3, vI 0), (0, vR 61), (1, vI t), (2, vI e)]) rfl rfl rfl ?_
              refine g_goto rfl ?_
              exact ih5_1 _ (by omega) 0 (i_1 + 1) (by omega) (by omega) rfl
            · intro k14
              refine g_iconst rfl ?_
              refine g_goto rfl ?_
              refine g_istore_n (n := 3) (lo' := [(4, vI i_1), (0, vR 61), (1, vI t), (2, vI e)]) rfl rfl ?_
              refine g_iinc (n := 4) (lo' := [(3, vI 1), (0, vR 61), (1, vI t), (2, vI e)]) rfl rfl rfl ?_
              refine g_goto rfl ?_
              exact ih5_1 _ (by omega) 1 (i_1 + 1) (by omega) (by omega) rfl
  exact L5_1 _ 1 0 (by omega) (by omega) rfl
theorem d_leads {V : cg_V} {d q : Nat} (hd : 1 ≤ d) (hq : 24 ≤ q) {m : kM} (hm : kI m) {t a b : Int} (h_t : (-2147483648) ≤ t ∧ t ≤ 2147483647) (h_a : (-2147483648) ≤ a ∧ a ≤ 2147483647) (h_b : (-2147483648) ≤ b ∧ b ≤ 2147483647) : cg_S V d q mX10_leads [vR 61, vI t, vI a, vI b] (kl m) (R_J (fun z m' => (m = m') ∧ (-9223372036854775808 ≤ z) ∧ (z < 9223372036854775808))) := by
  refine cg_of (List.mem_of_getElem? (show ae_MT[181]? = some mX10_leads from rfl)) (Nat.le_of_ble_eq_true rfl) ?_
  show cg_G V mX10_leads d q _ 0 [(0, vR 61), (1, vI t), (2, vI a), (3, vI b)] [] (kl m) 0 0
  have J19_1 : ∀ x19_1 : Int, (0 ≤ x19_1 ∧ x19_1 ≤ 1) → cg_G V mX10_leads d q (R_J (fun z m' => (m = m') ∧ (-9223372036854775808 ≤ z) ∧ (z < 9223372036854775808))) 19 [(0, vR 61), (1, vI t), (2, vI a), (3, vI b)] [vL x19_1] (kl m) 0 0 := by
    intro x19_1 hx19_1_0
    refine g_lstore (n := 4) (lo' := [(0, vR 61), (1, vI t), (2, vI a), (3, vI b)]) rfl rfl ?_
    refine g_iconst rfl ?_
    refine g_istore (n := 6) (lo' := [(4, vL x19_1), (0, vR 61), (1, vI t), (2, vI a), (3, vI b)]) rfl rfl ?_
    have L24_1 : ∀ (n24_1 : Nat) (s_1 : Int) (e_1 : Int), ((-9223372036854775808) ≤ s_1 ∧ s_1 ≤ 9223372036854775807) → (0 ≤ e_1 ∧ e_1 ≤ 10) → ((10 - e_1).toNat) = n24_1 → cg_G V mX10_leads d q (R_J (fun z m' => (m = m') ∧ (-9223372036854775808 ≤ z) ∧ (z < 9223372036854775808))) 24 [(6, vI e_1), (4, vL s_1), (0, vR 61), (1, vI t), (2, vI a), (3, vI b)] [] (kl m) 0 0 := by
      intro n24_1
      induction n24_1 using Nat.strongRecOn with
      | _ n24_1 ih24_1 =>
        intro s_1 e_1 i1 i2 q3
        refine g_iload (n := 6) rfl rfl ?_
        refine g_aload_n (n := 0) rfl rfl ?_
        have h4 : 0 ≤ m.1 26 ∧ m.1 26 ≤ 10 := hm.1 26
        refine g_getf (v := vI (m.1 26)) rfl (kl_61 _) rfl ?_
        refine g_icmp_ge (by omega) (by omega) (by omega) (by omega) rfl ?_ ?_
        · intro k5
          refine g_lload (n := 4) rfl rfl ?_
          refine g_lret rfl rfl ?_
          exact ⟨_, _, rfl, rfl, (by omega), (by omega)⟩
        · intro k6
          refine g_aload_n (n := 0) rfl rfl ?_
          refine g_getf (v := vR 66) rfl (kl_61 _) rfl ?_
          refine g_iconst rfl ?_
          refine g_iload (n := 6) rfl rfl ?_
          refine g_imul rfl ?_
          refine g_iconst rfl ?_
          refine g_iadd rfl ?_
          have h7 : 0 ≤ m.2.1 66 ((4 * e_1) + 2) ∧ m.2.1 66 ((4 * e_1) + 2) ≤ 5 := hm.2 66 ((4 * e_1) + 2) (by omega) (show ((4 * e_1) + 2) < (40 : Int) by omega)
          refine g_iald (f := m.2.1 66) rfl (kl_66 _) (by decide) (by omega) (by omega) ?_
          refine g_istore (n := 7) (lo' := [(6, vI e_1), (4, vL s_1), (0, vR 61), (1, vI t), (2, vI a), (3, vI b)]) rfl rfl ?_
          have J113_2 : ∀ x113_2 : Int, (0 ≤ x113_2 ∧ x113_2 ≤ 1) → cg_G V mX10_leads d q (R_J (fun z m' => (m = m') ∧ (-9223372036854775808 ≤ z) ∧ (z < 9223372036854775808))) 113 [(7, vI (m.2.1 66 ((4 * e_1) + 2))), (6, vI e_1), (4, vL s_1), (0, vR 61), (1, vI t), (2, vI a), (3, vI b)] [vI x113_2] (kl m) 0 0 := by
            intro x113_2 hx113_2_0
            refine g_istore (n := 8) (lo' := [(7, vI (m.2.1 66 ((4 * e_1) + 2))), (6, vI e_1), (4, vL s_1), (0, vR 61), (1, vI t), (2, vI a), (3, vI b)]) rfl rfl ?_
            refine g_lload (n := 4) rfl rfl ?_
            have J143_3 : ∀ x143_3 : Int, (0 ≤ x143_3 ∧ x143_3 ≤ 1) → cg_G V mX10_leads d q (R_J (fun z m' => (m = m') ∧ (-9223372036854775808 ≤ z) ∧ (z < 9223372036854775808))) 143 [(8, vI x113_2), (7, vI (m.2.1 66 ((4 * e_1) + 2))), (6, vI e_1), (4, vL s_1), (0, vR 61), (1, vI t), (2, vI a), (3, vI b)] [vL x143_3, vL s_1] (kl m) 0 0 := by
              intro x143_3 hx143_3_0
              refine g_ladd rfl ?_
              refine g_nrmL ?_
              intro z8 h9 h10 h11 h12
              refine g_lstore (n := 4) (lo' := [(8, vI x113_2), (7, vI (m.2.1 66 ((4 * e_1) + 2))), (6, vI e_1), (0, vR 61), (1, vI t), (2, vI a), (3, vI b)]) rfl rfl ?_
              refine g_iinc (n := 6) (lo' := [(4, vL z8), (8, vI x113_2), (7, vI (m.2.1 66 ((4 * e_1) + 2))), (0, vR 61), (1, vI t), (2, vI a), (3, vI b)]) rfl rfl rfl ?_
              refine g_goto rfl ?_
              refine g_pick (lo' := [(6, vI (e_1 + 1)), (4, vL z8), (0, vR 61), (1, vI t), (2, vI a), (3, vI b)]) [0, 1, 4, 5, 6, 7] rfl ?_
              exact ih24_1 _ (by omega) z8 (e_1 + 1) (by omega) (by omega) rfl
            refine g_iload (n := 7) rfl rfl ?_
            refine g_iconst rfl ?_
            refine g_icmp_eq (by omega) (by omega) (by decide) (by decide) rfl ?_ ?_
            · intro k13
              refine g_lconst (x := 0) (by decide) rfl ?_
              exact J143_3 0 (by omega)
            · intro k14
              refine g_iload (n := 8) rfl rfl ?_
              refine g_if_eq (by omega) (by omega) rfl ?_ ?_
              · intro k15
                refine g_lconst (x := 0) (by decide) rfl ?_
                exact J143_3 0 (by omega)
              · intro k16
                refine g_aload_n (n := 0) rfl rfl ?_
                refine g_iload_n (n := 1) rfl rfl ?_
                refine g_iload (n := 6) rfl rfl ?_
                refine c_vI (i := 61) (ps := [vI e_1, vI t]) (r := [vL s_1]) (as := [vR 61, vI t, vI e_1]) (cs' := 0) (sl' := 0) rfl rfl rfl rfl rfl rfl (kl_61 _) (d_fits (d := d - 1) (q := q - (5 + 19)) (by omega) (by omega) hm (t := t) (e := e_1) (show (-2147483648) ≤ t ∧ t ≤ 2147483647 by omega) (show (-2147483648) ≤ e_1 ∧ e_1 ≤ 2147483647 by omega)) (by omega) (show 5 + 19 ≤ q by omega) (Nat.le_of_ble_eq_true rfl) (Nat.le_of_ble_eq_true rfl) rfl rfl rfl ?_
                rintro z17 m18 ⟨rfl, p20⟩
                refine g_if_eq (by omega) (by omega) rfl ?_ ?_
                · intro k21
                  refine g_lconst (x := 0) (by decide) rfl ?_
                  exact J143_3 0 (by omega)
                · intro k22
                  refine g_lconst (x := 1) (by decide) rfl ?_
                  refine g_goto rfl ?_
                  exact J143_3 1 (by omega)
          refine g_aload_n (n := 0) rfl rfl ?_
          refine g_getf (v := vR 66) rfl (kl_61 _) rfl ?_
          refine g_iconst rfl ?_
          refine g_iload (n := 6) rfl rfl ?_
          refine g_imul rfl ?_
          have h23 : 0 ≤ m.2.1 66 (4 * e_1) ∧ m.2.1 66 (4 * e_1) ≤ 5 := hm.2 66 (4 * e_1) (by omega) (show (4 * e_1) < (40 : Int) by omega)
          refine g_iald (f := m.2.1 66) rfl (kl_66 _) (by decide) (by omega) (by omega) ?_
          refine g_iload_n (n := 2) rfl rfl ?_
          refine g_icmp_ne (by omega) (by omega) (by omega) (by omega) rfl ?_ ?_
          · intro k24
            refine g_iload (n := 7) rfl rfl ?_
            refine g_iconst rfl ?_
            refine g_icmp_eq (by omega) (by omega) (by decide) (by decide) rfl ?_ ?_
            · intro k25
              refine g_iconst rfl ?_
              exact J113_2 0 (by omega)
            · intro k26
              refine g_aload_n (n := 0) rfl rfl ?_
              refine g_getf (v := vR 66) rfl (kl_61 _) rfl ?_
              refine g_iconst rfl ?_
              refine g_iload (n := 6) rfl rfl ?_
              refine g_imul rfl ?_
              refine g_iconst rfl ?_
              refine g_iadd rfl ?_
              have h27 : 0 ≤ m.2.1 66 ((4 * e_1) + 1) ∧ m.2.1 66 ((4 * e_1) + 1) ≤ 5 := hm.2 66 ((4 * e_1) + 1) (by omega) (show ((4 * e_1) + 1) < (40 : Int) by omega)
              refine g_iald (f := m.2.1 66) rfl (kl_66 _) (by decide) (by omega) (by omega) ?_
              refine g_iload_n (n := 2) rfl rfl ?_
              refine g_icmp_ne (by omega) (by omega) (by omega) (by omega) rfl ?_ ?_
              · intro k28
                refine g_iconst rfl ?_
                exact J113_2 0 (by omega)
              · intro k29
                refine g_aload_n (n := 0) rfl rfl ?_
                refine g_getf (v := vR 66) rfl (kl_61 _) rfl ?_
                refine g_iconst rfl ?_
                refine g_iload (n := 6) rfl rfl ?_
                refine g_imul rfl ?_
                have h30 : 0 ≤ m.2.1 66 (4 * e_1) ∧ m.2.1 66 (4 * e_1) ≤ 5 := hm.2 66 (4 * e_1) (by omega) (show (4 * e_1) < (40 : Int) by omega)
                refine g_iald (f := m.2.1 66) rfl (kl_66 _) (by decide) (by omega) (by omega) ?_
                refine g_iload_n (n := 3) rfl rfl ?_
                refine g_icmp_ne (by omega) (by omega) (by omega) (by omega) rfl ?_ ?_
                · intro k31
                  refine g_iconst rfl ?_
                  exact J113_2 0 (by omega)
                · intro k32
                  refine g_iconst rfl ?_
                  refine g_goto rfl ?_
                  exact J113_2 1 (by omega)
          · intro k33
            refine g_aload_n (n := 0) rfl rfl ?_
            refine g_getf (v := vR 66) rfl (kl_61 _) rfl ?_
            refine g_iconst rfl ?_
            refine g_iload (n := 6) rfl rfl ?_
            refine g_imul rfl ?_
            refine g_iconst rfl ?_
            refine g_iadd rfl ?_
            have h34 : 0 ≤ m.2.1 66 ((4 * e_1) + 1) ∧ m.2.1 66 ((4 * e_1) + 1) ≤ 5 := hm.2 66 ((4 * e_1) + 1) (by omega) (show ((4 * e_1) + 1) < (40 : Int) by omega)
            refine g_iald (f := m.2.1 66) rfl (kl_66 _) (by decide) (by omega) (by omega) ?_
            refine g_iload_n (n := 3) rfl rfl ?_
            refine g_icmp_eq (by omega) (by omega) (by omega) (by omega) rfl ?_ ?_
            · intro k35
              refine g_iconst rfl ?_
              refine g_goto rfl ?_
              exact J113_2 1 (by omega)
            · intro k36
              refine g_iload (n := 7) rfl rfl ?_
              refine g_iconst rfl ?_
              refine g_icmp_eq (by omega) (by omega) (by decide) (by decide) rfl ?_ ?_
              · intro k37
                refine g_iconst rfl ?_
                exact J113_2 0 (by omega)
              · intro k38
                refine g_aload_n (n := 0) rfl rfl ?_
                refine g_getf (v := vR 66) rfl (kl_61 _) rfl ?_
                refine g_iconst rfl ?_
                refine g_iload (n := 6) rfl rfl ?_
                refine g_imul rfl ?_
                refine g_iconst rfl ?_
                refine g_iadd rfl ?_
                have h39 : 0 ≤ m.2.1 66 ((4 * e_1) + 1) ∧ m.2.1 66 ((4 * e_1) + 1) ≤ 5 := hm.2 66 ((4 * e_1) + 1) (by omega) (show ((4 * e_1) + 1) < (40 : Int) by omega)
                refine g_iald (f := m.2.1 66) rfl (kl_66 _) (by decide) (by omega) (by omega) ?_
                refine g_iload_n (n := 2) rfl rfl ?_
                refine g_icmp_ne (by omega) (by omega) (by omega) (by omega) rfl ?_ ?_
                · intro k40
                  refine g_iconst rfl ?_
                  exact J113_2 0 (by omega)
                · intro k41
                  refine g_aload_n (n := 0) rfl rfl ?_
                  refine g_getf (v := vR 66) rfl (kl_61 _) rfl ?_
                  refine g_iconst rfl ?_
                  refine g_iload (n := 6) rfl rfl ?_
                  refine g_imul rfl ?_
                  have h42 : 0 ≤ m.2.1 66 (4 * e_1) ∧ m.2.1 66 (4 * e_1) ≤ 5 := hm.2 66 (4 * e_1) (by omega) (show (4 * e_1) < (40 : Int) by omega)
                  refine g_iald (f := m.2.1 66) rfl (kl_66 _) (by decide) (by omega) (by omega) ?_
                  refine g_iload_n (n := 3) rfl rfl ?_
                  refine g_icmp_ne (by omega) (by omega) (by omega) (by omega) rfl ?_ ?_
                  · intro k43
                    refine g_iconst rfl ?_
                    exact J113_2 0 (by omega)
                  · intro k44
                    refine g_iconst rfl ?_
                    refine g_goto rfl ?_
                    exact J113_2 1 (by omega)
    exact L24_1 _ x19_1 0 (by omega) (by omega) rfl
  refine g_iload_n (n := 2) rfl rfl ?_
  refine g_iload_n (n := 3) rfl rfl ?_
  refine g_icmp_ne (by omega) (by omega) (by omega) (by omega) rfl ?_ ?_
  · intro k45
    refine g_lconst (x := 0) (by decide) rfl ?_
    exact J19_1 0 (by omega)
  · intro k46
    refine g_aload_n (n := 0) rfl rfl ?_
    refine g_iload_n (n := 1) rfl rfl ?_
    refine g_iconst rfl ?_
    refine c_vI (i := 61) (ps := [vI (-1), vI t]) (r := []) (as := [vR 61, vI t, vI (-1)]) (cs' := 0) (sl' := 0) rfl rfl rfl rfl rfl rfl (kl_61 _) (d_fits (d := d - 1) (q := q - (5 + 19)) (by omega) (by omega) hm (t := t) (e := (-1)) (show (-2147483648) ≤ t ∧ t ≤ 2147483647 by omega) (show (-2147483648) ≤ (-1) ∧ (-1) ≤ 2147483647 by omega)) (by omega) (show 5 + 19 ≤ q by omega) (Nat.le_of_ble_eq_true rfl) (Nat.le_of_ble_eq_true rfl) rfl rfl rfl ?_
    rintro z47 m48 ⟨rfl, p50⟩
    refine g_if_eq (by omega) (by omega) rfl ?_ ?_
    · intro k51
      refine g_lconst (x := 0) (by decide) rfl ?_
      exact J19_1 0 (by omega)
    · intro k52
      refine g_lconst (x := 1) (by decide) rfl ?_
      refine g_goto rfl ?_
      exact J19_1 1 (by omega)
theorem d_layNight {V : cg_V} {d q : Nat} (hd : 2 ≤ d) (hq : 52 ≤ q) {m : kM} (hm : kI m) {n : Int} (h_n : 1 ≤ n ∧ n ≤ 10) : cg_S V d q mX10_layNight [vR 61, vI n] (kl m) (R_V (fun m' => (kI m') ∧ (fr [] [74, 75] m m'))) := by
  have hf0 : fr [] [74, 75] m m := fr_rf m
  refine cg_of (List.mem_of_getElem? (show ae_MT[182]? = some mX10_layNight from rfl)) (Nat.le_of_ble_eq_true rfl) ?_
  show cg_G V mX10_layNight d q _ 0 [(0, vR 61), (1, vI n)] [] (kl m) 0 0
  refine g_iconst rfl ?_
  refine g_istore_n (n := 2) (lo' := [(0, vR 61), (1, vI n)]) rfl rfl ?_
  have L2_1 : ∀ (n2_1 : Nat) (r_1 : Int) (mL1 : kM), (kI mL1) → (fr [] [74, 75] m mL1) → (0 ≤ r_1 ∧ r_1 ≤ 6) → ((6 - r_1).toNat) = n2_1 → cg_G V mX10_layNight d q (R_V (fun m' => (kI m') ∧ (fr [] [74, 75] m m'))) 2 [(2, vI r_1), (0, vR 61), (1, vI n)] [] (kl mL1) 0 0 := by
    intro n2_1
    induction n2_1 using Nat.strongRecOn with
    | _ n2_1 ih2_1 =>
      intro r_1 mL1 hmL1 hfL1 i1 q2
      refine g_iload_n (n := 2) rfl rfl ?_
      refine g_bipush (by decide) rfl ?_
      refine g_icmp_ge (by omega) (by omega) (by decide) (by decide) rfl ?_ ?_
      · intro k3
        refine g_iconst rfl ?_
        refine g_istore_n (n := 2) (lo' := [(0, vR 61), (1, vI n)]) rfl rfl ?_
        have L47_2 : ∀ (n47_2 : Nat) (t_2 : Int) (mL2 : kM), (kI mL2) → (fr [] [74, 75] m mL2) → (0 ≤ t_2 ∧ t_2 ≤ 10) → ((10 - t_2).toNat) = n47_2 → cg_G V mX10_layNight d q (R_V (fun m' => (kI m') ∧ (fr [] [74, 75] m m'))) 47 [(2, vI t_2), (0, vR 61), (1, vI n)] [] (kl mL2) 0 0 := by
          intro n47_2
          induction n47_2 using Nat.strongRecOn with
          | _ n47_2 ih47_2 =>
            intro t_2 mL2 hmL2 hfL2 i4 q5
            refine g_iload_n (n := 2) rfl rfl ?_
            refine g_iload_n (n := 1) rfl rfl ?_
            refine g_icmp_ge (by omega) (by omega) (by omega) (by omega) rfl ?_ ?_
            · intro k6
              refine g_iload_n (n := 1) rfl rfl ?_
              refine g_iconst rfl ?_
              refine g_isub rfl ?_
              refine g_istore_n (n := 2) (lo' := [(0, vR 61), (1, vI n)]) rfl rfl ?_
              have L141_3 : ∀ (n141_3 : Nat) (t_3 : Int) (mL3 : kM), (kI mL3) → (fr [] [74, 75] m mL3) → ((-1) ≤ t_3 ∧ t_3 ≤ 9) → ((t_3 + 1).toNat) = n141_3 → cg_G V mX10_layNight d q (R_V (fun m' => (kI m') ∧ (fr [] [74, 75] m m'))) 141 [(2, vI t_3), (0, vR 61), (1, vI n)] [] (kl mL3) 0 0 := by
                intro n141_3
                induction n141_3 using Nat.strongRecOn with
                | _ n141_3 ih141_3 =>
                  intro t_3 mL3 hmL3 hfL3 i7 q8
                  refine g_iload_n (n := 2) rfl rfl ?_
                  refine g_if_lt (by omega) (by omega) rfl ?_ ?_
                  · intro k9
                    refine g_vret rfl rfl ?_
                    exact ⟨_, rfl, hmL3, hfL3⟩
                  · intro k10
                    refine g_iconst rfl ?_
                    refine g_istore_n (n := 3) (lo' := [(2, vI t_3), (0, vR 61), (1, vI n)]) rfl rfl ?_
                    have L147_4 : ∀ (n147_4 : Nat) (b_4 : Int) (mL4 : kM), (kI mL4) → (fr [] [74, 75] m mL4) → (0 ≤ b_4 ∧ b_4 ≤ 6) → ((6 - b_4).toNat) = n147_4 → cg_G V mX10_layNight d q (R_V (fun m' => (kI m') ∧ (fr [] [74, 75] m m'))) 147 [(3, vI b_4), (2, vI t_3), (0, vR 61), (1, vI n)] [] (kl mL4) 0 0 := by
                      intro n147_4
                      induction n147_4 using Nat.strongRecOn with
                      | _ n147_4 ih147_4 =>
                        intro b_4 mL4 hmL4 hfL4 i11 q12
                        refine g_iload_n (n := 3) rfl rfl ?_
                        refine g_aload_n (n := 0) rfl rfl ?_
                        have h13 : 2 ≤ mL4.1 25 ∧ mL4.1 25 ≤ 6 := hmL4.1 25
                        have h14 : mL4.1 25 = m.1 25 := hfL4.1 25 rfl
                        refine g_getf (v := vI (mL4.1 25)) rfl (kl_61 _) rfl ?_
                        refine g_icmp_ge (by omega) (by omega) (by omega) (by omega) rfl ?_ ?_
                        · intro k15
                          refine g_iinc (n := 2) (lo' := [(3, vI b_4), (0, vR 61), (1, vI n)]) rfl rfl rfl ?_
                          refine g_goto rfl ?_
                          refine g_pick (lo' := [(2, vI (t_3 + (-1))), (0, vR 61), (1, vI n)]) [0, 2, 3] rfl ?_
                          exact ih141_3 _ (by omega) (t_3 + (-1)) mL4 hmL4 hfL4 (by omega) rfl
                        · intro k16
                          refine g_lconst (x := 0) (by decide) rfl ?_
                          refine g_lstore (n := 4) (lo' := [(3, vI b_4), (2, vI t_3), (0, vR 61), (1, vI n)]) rfl rfl ?_
                          refine g_iconst rfl ?_
                          refine g_istore (n := 6) (lo' := [(4, vL 0), (3, vI b_4), (2, vI t_3), (0, vR 61), (1, vI n)]) rfl rfl ?_
                          have L161_5 : ∀ (n161_5 : Nat) (s_5 : Int) (a_5 : Int), ((-9223372036854775808) ≤ s_5 ∧ s_5 ≤ 9223372036854775807) → (0 ≤ a_5 ∧ a_5 ≤ 6) → ((6 - a_5).toNat) = n161_5 → cg_G V mX10_layNight d q (R_V (fun m' => (kI m') ∧ (fr [] [74, 75] m m'))) 161 [(6, vI a_5), (4, vL s_5), (3, vI b_4), (2, vI t_3), (0, vR 61), (1, vI n)] [] (kl mL4) 0 0 := by
                            intro n161_5
                            induction n161_5 using Nat.strongRecOn with
                            | _ n161_5 ih161_5 =>
                              intro s_5 a_5 i17 i18 q19
                              refine g_iload (n := 6) rfl rfl ?_
                              refine g_aload_n (n := 0) rfl rfl ?_
                              refine g_getf (v := vI (mL4.1 25)) rfl (kl_61 _) rfl ?_
                              refine g_icmp_ge (by omega) (by omega) (by omega) (by omega) rfl ?_ ?_
                              · intro k20
                                refine g_aload_n (n := 0) rfl rfl ?_
                                refine g_getf (v := vR 75) rfl (kl_61 _) rfl ?_
                                refine g_bipush (by decide) rfl ?_
                                refine g_iload_n (n := 2) rfl rfl ?_
                                refine g_imul rfl ?_
                                refine g_iload_n (n := 3) rfl rfl ?_
                                refine g_iadd rfl ?_
                                refine g_lload (n := 4) rfl rfl ?_
                                refine g_lAst (f := mL4.2.1 75) (m' := (kA mL4 75 (up (mL4.2.1 75) ((6 * t_3) + b_4) s_5))) rfl (kl_75 _) (by decide) (by omega) (by omega) (kA_75 _ _) ?_
                                have hm21 : kI (kA mL4 75 (up (mL4.2.1 75) ((6 * t_3) + b_4) s_5)) := kI_U hmL4 75 rfl (show ((-9223372036854775808) : Int) ≤ s_5 by omega) (show s_5 ≤ (9223372036854775807 : Int) by omega)
                                have hf22 : fr [] [74, 75] m (kA mL4 75 (up (mL4.2.1 75) ((6 * t_3) + b_4) s_5)) := fr_A hfL4 75 _ rfl
                                refine g_iinc (n := 3) (lo' := [(6, vI a_5), (4, vL s_5), (2, vI t_3), (0, vR 61), (1, vI n)]) rfl rfl rfl ?_
                                refine g_goto rfl ?_
                                refine g_pick (lo' := [(3, vI (b_4 + 1)), (2, vI t_3), (0, vR 61), (1, vI n)]) [0, 3, 4, 5] rfl ?_
                                exact ih147_4 _ (by omega) (b_4 + 1) (kA mL4 75 (up (mL4.2.1 75) ((6 * t_3) + b_4) s_5)) hm21 hf22 (by omega) rfl
                              · intro k23
                                refine g_lload (n := 4) rfl rfl ?_
                                refine g_aload_n (n := 0) rfl rfl ?_
                                refine g_iload_n (n := 2) rfl rfl ?_
                                refine g_iload_n (n := 3) rfl rfl ?_
                                refine g_iload (n := 6) rfl rfl ?_
                                refine c_vL (i := 61) (ps := [vI a_5, vI b_4, vI t_3]) (r := [vL s_5]) (as := [vR 61, vI t_3, vI b_4, vI a_5]) (cs' := 0) (sl' := 0) rfl rfl rfl rfl rfl rfl (kl_61 _) (d_leads (d := d - 1) (q := q - (9 + 19)) (by omega) (by omega) hmL4 (t := t_3) (a := b_4) (b := a_5) (show (-2147483648) ≤ t_3 ∧ t_3 ≤ 2147483647 by omega) (show (-2147483648) ≤ b_4 ∧ b_4 ≤ 2147483647 by omega) (show (-2147483648) ≤ a_5 ∧ a_5 ≤ 2147483647 by omega)) (by omega) (show 9 + 19 ≤ q by omega) (Nat.le_of_ble_eq_true rfl) (Nat.le_of_ble_eq_true rfl) rfl rfl rfl ?_
                                rintro z24 m25 ⟨rfl, p27, p28⟩
                                refine g_aload_n (n := 0) rfl rfl ?_
                                refine g_getf (v := vR 75) rfl (kl_61 _) rfl ?_
                                refine g_bipush (by decide) rfl ?_
                                refine g_iload_n (n := 2) rfl rfl ?_
                                refine g_imul rfl ?_
                                refine g_bipush (by decide) rfl ?_
                                refine g_iadd rfl ?_
                                refine g_iload (n := 6) rfl rfl ?_
                                refine g_iadd rfl ?_
                                have h29 : (-9223372036854775808) ≤ mL4.2.1 75 (((6 * t_3) + 6) + a_5) ∧ mL4.2.1 75 (((6 * t_3) + 6) + a_5) ≤ 9223372036854775807 := hmL4.2 75 (((6 * t_3) + 6) + a_5) (by omega) (show (((6 * t_3) + 6) + a_5) < (66 : Int) by omega)
                                refine g_lald (f := mL4.2.1 75) rfl (kl_75 _) (by decide) (by omega) (by omega) ?_
                                refine g_lmul rfl ?_
                                refine g_nrmL ?_
                                intro z30 h31 h32 h33 h34
                                refine g_ladd rfl ?_
                                refine g_nrmL ?_
                                intro z35 h36 h37 h38 h39
                                refine g_lstore (n := 4) (lo' := [(6, vI a_5), (3, vI b_4), (2, vI t_3), (0, vR 61), (1, vI n)]) rfl rfl ?_
                                refine g_iinc (n := 6) (lo' := [(4, vL z35), (3, vI b_4), (2, vI t_3), (0, vR 61), (1, vI n)]) rfl rfl rfl ?_
                                refine g_goto rfl ?_
                                exact ih161_5 _ (by omega) z35 (a_5 + 1) (by omega) (by omega) rfl
                          exact L161_5 _ 0 0 (by omega) (by omega) rfl
                    exact L147_4 _ 0 mL3 hmL3 hfL3 (by omega) rfl
              exact L141_3 _ (n - 1) mL2 hmL2 hfL2 (by omega) rfl
            · intro k40
              refine g_iconst rfl ?_
              refine g_istore_n (n := 3) (lo' := [(2, vI t_2), (0, vR 61), (1, vI n)]) rfl rfl ?_
              have L54_6 : ∀ (n54_6 : Nat) (b_6 : Int) (mL6 : kM), (kI mL6) → (fr [] [74, 75] m mL6) → (0 ≤ b_6 ∧ b_6 ≤ 6) → ((6 - b_6).toNat) = n54_6 → cg_G V mX10_layNight d q (R_V (fun m' => (kI m') ∧ (fr [] [74, 75] m m'))) 54 [(3, vI b_6), (2, vI t_2), (0, vR 61), (1, vI n)] [] (kl mL6) 0 0 := by
                intro n54_6
                induction n54_6 using Nat.strongRecOn with
                | _ n54_6 ih54_6 =>
                  intro b_6 mL6 hmL6 hfL6 i41 q42
                  refine g_iload_n (n := 3) rfl rfl ?_
                  refine g_aload_n (n := 0) rfl rfl ?_
                  have h43 : 2 ≤ mL6.1 25 ∧ mL6.1 25 ≤ 6 := hmL6.1 25
                  have h44 : mL6.1 25 = m.1 25 := hfL6.1 25 rfl
                  refine g_getf (v := vI (mL6.1 25)) rfl (kl_61 _) rfl ?_
                  refine g_icmp_ge (by omega) (by omega) (by omega) (by omega) rfl ?_ ?_
                  · intro k45
                    refine g_iinc (n := 2) (lo' := [(3, vI b_6), (0, vR 61), (1, vI n)]) rfl rfl rfl ?_
                    refine g_goto rfl ?_
                    refine g_pick (lo' := [(2, vI (t_2 + 1)), (0, vR 61), (1, vI n)]) [0, 2, 3] rfl ?_
                    exact ih47_2 _ (by omega) (t_2 + 1) mL6 hmL6 hfL6 (by omega) rfl
                  · intro k46
                    refine g_lconst (x := 0) (by decide) rfl ?_
                    refine g_lstore (n := 4) (lo' := [(3, vI b_6), (2, vI t_2), (0, vR 61), (1, vI n)]) rfl rfl ?_
                    refine g_iconst rfl ?_
                    refine g_istore (n := 6) (lo' := [(4, vL 0), (3, vI b_6), (2, vI t_2), (0, vR 61), (1, vI n)]) rfl rfl ?_
                    have L68_7 : ∀ (n68_7 : Nat) (s_7 : Int) (a_7 : Int), ((-9223372036854775808) ≤ s_7 ∧ s_7 ≤ 9223372036854775807) → (0 ≤ a_7 ∧ a_7 ≤ 6) → ((6 - a_7).toNat) = n68_7 → cg_G V mX10_layNight d q (R_V (fun m' => (kI m') ∧ (fr [] [74, 75] m m'))) 68 [(6, vI a_7), (4, vL s_7), (3, vI b_6), (2, vI t_2), (0, vR 61), (1, vI n)] [] (kl mL6) 0 0 := by
                      intro n68_7
                      induction n68_7 using Nat.strongRecOn with
                      | _ n68_7 ih68_7 =>
                        intro s_7 a_7 i47 i48 q49
                        refine g_iload (n := 6) rfl rfl ?_
                        refine g_aload_n (n := 0) rfl rfl ?_
                        refine g_getf (v := vI (mL6.1 25)) rfl (kl_61 _) rfl ?_
                        refine g_icmp_ge (by omega) (by omega) (by omega) (by omega) rfl ?_ ?_
                        · intro k50
                          refine g_aload_n (n := 0) rfl rfl ?_
                          refine g_getf (v := vR 74) rfl (kl_61 _) rfl ?_
                          refine g_bipush (by decide) rfl ?_
                          refine g_iload_n (n := 2) rfl rfl ?_
                          refine g_imul rfl ?_
                          refine g_bipush (by decide) rfl ?_
                          refine g_iadd rfl ?_
                          refine g_iload_n (n := 3) rfl rfl ?_
                          refine g_iadd rfl ?_
                          refine g_lload (n := 4) rfl rfl ?_
                          refine g_lAst (f := mL6.2.1 74) (m' := (kA mL6 74 (up (mL6.2.1 74) (((6 * t_2) + 6) + b_6) s_7))) rfl (kl_74 _) (by decide) (by omega) (by omega) (kA_74 _ _) ?_
                          have hm51 : kI (kA mL6 74 (up (mL6.2.1 74) (((6 * t_2) + 6) + b_6) s_7)) := kI_U hmL6 74 rfl (show ((-9223372036854775808) : Int) ≤ s_7 by omega) (show s_7 ≤ (9223372036854775807 : Int) by omega)
                          have hf52 : fr [] [74, 75] m (kA mL6 74 (up (mL6.2.1 74) (((6 * t_2) + 6) + b_6) s_7)) := fr_A hfL6 74 _ rfl
                          refine g_iinc (n := 3) (lo' := [(6, vI a_7), (4, vL s_7), (2, vI t_2), (0, vR 61), (1, vI n)]) rfl rfl rfl ?_
                          refine g_goto rfl ?_
                          refine g_pick (lo' := [(3, vI (b_6 + 1)), (2, vI t_2), (0, vR 61), (1, vI n)]) [0, 3, 4, 5] rfl ?_
                          exact ih54_6 _ (by omega) (b_6 + 1) (kA mL6 74 (up (mL6.2.1 74) (((6 * t_2) + 6) + b_6) s_7)) hm51 hf52 (by omega) rfl
                        · intro k53
                          refine g_lload (n := 4) rfl rfl ?_
                          refine g_aload_n (n := 0) rfl rfl ?_
                          refine g_getf (v := vR 74) rfl (kl_61 _) rfl ?_
                          refine g_bipush (by decide) rfl ?_
                          refine g_iload_n (n := 2) rfl rfl ?_
                          refine g_imul rfl ?_
                          refine g_iload (n := 6) rfl rfl ?_
                          refine g_iadd rfl ?_
                          have h54 : (-9223372036854775808) ≤ mL6.2.1 74 ((6 * t_2) + a_7) ∧ mL6.2.1 74 ((6 * t_2) + a_7) ≤ 9223372036854775807 := hmL6.2 74 ((6 * t_2) + a_7) (by omega) (show ((6 * t_2) + a_7) < (66 : Int) by omega)
                          refine g_lald (f := mL6.2.1 74) rfl (kl_74 _) (by decide) (by omega) (by omega) ?_
                          refine g_aload_n (n := 0) rfl rfl ?_
                          refine g_iload_n (n := 2) rfl rfl ?_
                          refine g_iload (n := 6) rfl rfl ?_
                          refine g_iload_n (n := 3) rfl rfl ?_
                          refine c_vL (i := 61) (ps := [vI b_6, vI a_7, vI t_2]) (r := [vL (mL6.2.1 74 ((6 * t_2) + a_7)), vL s_7]) (as := [vR 61, vI t_2, vI a_7, vI b_6]) (cs' := 0) (sl' := 0) rfl rfl rfl rfl rfl rfl (kl_61 _) (d_leads (d := d - 1) (q := q - (9 + 19)) (by omega) (by omega) hmL6 (t := t_2) (a := a_7) (b := b_6) (show (-2147483648) ≤ t_2 ∧ t_2 ≤ 2147483647 by omega) (show (-2147483648) ≤ a_7 ∧ a_7 ≤ 2147483647 by omega) (show (-2147483648) ≤ b_6 ∧ b_6 ≤ 2147483647 by omega)) (by omega) (show 9 + 19 ≤ q by omega) (Nat.le_of_ble_eq_true rfl) (Nat.le_of_ble_eq_true rfl) rfl rfl rfl ?_
                          rintro z55 m56 ⟨rfl, p58, p59⟩
                          refine g_lmul rfl ?_
                          refine g_nrmL ?_
                          intro z60 h61 h62 h63 h64
                          refine g_ladd rfl ?_
                          refine g_nrmL ?_
                          intro z65 h66 h67 h68 h69
                          refine g_lstore (n := 4) (lo' := [(6, vI a_7), (3, vI b_6), (2, vI t_2), (0, vR 61), (1, vI n)]) rfl rfl ?_
                          refine g_iinc (n := 6) (lo' := [(4, vL z65), (3, vI b_6), (2, vI t_2), (0, vR 61), (1, vI n)]) rfl rfl rfl ?_
                          refine g_goto rfl ?_
                          exact ih68_7 _ (by omega) z65 (a_7 + 1) (by omega) (by omega) rfl
                    exact L68_7 _ 0 0 (by omega) (by omega) rfl
              exact L54_6 _ 0 mL2 hmL2 hfL2 (by omega) rfl
        exact L47_2 _ 0 mL1 hmL1 hfL1 (by omega) rfl
      · intro k70
        refine g_aload_n (n := 0) rfl rfl ?_
        refine g_getf (v := vR 74) rfl (kl_61 _) rfl ?_
        refine g_iload_n (n := 2) rfl rfl ?_
        refine g_iload_n (n := 2) rfl rfl ?_
        refine g_aload_n (n := 0) rfl rfl ?_
        have h71 : 0 ≤ mL1.1 30 ∧ mL1.1 30 ≤ 5 := hmL1.1 30
        have h72 : mL1.1 30 = m.1 30 := hfL1.1 30 rfl
        refine g_getf (v := vI (mL1.1 30)) rfl (kl_61 _) rfl ?_
        refine g_icmp_ne (by omega) (by omega) (by omega) (by omega) rfl ?_ ?_
        · intro k73
          refine g_lconst (x := 0) (by decide) rfl ?_
          refine g_lAst (f := mL1.2.1 74) (m' := (kA mL1 74 (up (mL1.2.1 74) r_1 0))) rfl (kl_74 _) (by decide) (by omega) (by omega) (kA_74 _ _) ?_
          have hm74 : kI (kA mL1 74 (up (mL1.2.1 74) r_1 0)) := kI_U hmL1 74 rfl (show ((-9223372036854775808) : Int) ≤ 0 by omega) (show 0 ≤ (9223372036854775807 : Int) by omega)
          have hf75 : fr [] [74, 75] m (kA mL1 74 (up (mL1.2.1 74) r_1 0)) := fr_A hfL1 74 _ rfl
          refine g_aload_n (n := 0) rfl rfl ?_
          refine g_getf (v := vR 75) rfl (kl_61 _) rfl ?_
          refine g_bipush (by decide) rfl ?_
          refine g_iload_n (n := 1) rfl rfl ?_
          refine g_imul rfl ?_
          refine g_iload_n (n := 2) rfl rfl ?_
          refine g_iadd rfl ?_
          refine g_lconst (x := 1) (by decide) rfl ?_
          refine g_lAst (f := mL1.2.1 75) (m' := (kA (kA mL1 74 (up (mL1.2.1 74) r_1 0)) 75 (up (mL1.2.1 75) ((6 * n) + r_1) 1))) rfl (kl_75 _) (by decide) (by omega) (by omega) (kA_75 _ _) ?_
          have hm76 : kI (kA (kA mL1 74 (up (mL1.2.1 74) r_1 0)) 75 (up (mL1.2.1 75) ((6 * n) + r_1) 1)) := kI_U hm74 75 rfl (show ((-9223372036854775808) : Int) ≤ 1 by omega) (show 1 ≤ (9223372036854775807 : Int) by omega)
          have hf77 : fr [] [74, 75] m (kA (kA mL1 74 (up (mL1.2.1 74) r_1 0)) 75 (up (mL1.2.1 75) ((6 * n) + r_1) 1)) := fr_A hf75 75 _ rfl
          refine g_iinc (n := 2) (lo' := [(0, vR 61), (1, vI n)]) rfl rfl rfl ?_
          refine g_goto rfl ?_
          exact ih2_1 _ (by omega) (r_1 + 1) (kA (kA mL1 74 (up (mL1.2.1 74) r_1 0)) 75 (up (mL1.2.1 75) ((6 * n) + r_1) 1)) hm76 hf77 (by omega) rfl
        · intro k78
          refine g_lconst (x := 1) (by decide) rfl ?_
          refine g_goto rfl ?_
          refine g_lAst (f := mL1.2.1 74) (m' := (kA mL1 74 (up (mL1.2.1 74) r_1 1))) rfl (kl_74 _) (by decide) (by omega) (by omega) (kA_74 _ _) ?_
          have hm79 : kI (kA mL1 74 (up (mL1.2.1 74) r_1 1)) := kI_U hmL1 74 rfl (show ((-9223372036854775808) : Int) ≤ 1 by omega) (show 1 ≤ (9223372036854775807 : Int) by omega)
          have hf80 : fr [] [74, 75] m (kA mL1 74 (up (mL1.2.1 74) r_1 1)) := fr_A hfL1 74 _ rfl
          refine g_aload_n (n := 0) rfl rfl ?_
          refine g_getf (v := vR 75) rfl (kl_61 _) rfl ?_
          refine g_bipush (by decide) rfl ?_
          refine g_iload_n (n := 1) rfl rfl ?_
          refine g_imul rfl ?_
          refine g_iload_n (n := 2) rfl rfl ?_
          refine g_iadd rfl ?_
          refine g_lconst (x := 1) (by decide) rfl ?_
          refine g_lAst (f := mL1.2.1 75) (m' := (kA (kA mL1 74 (up (mL1.2.1 74) r_1 1)) 75 (up (mL1.2.1 75) ((6 * n) + r_1) 1))) rfl (kl_75 _) (by decide) (by omega) (by omega) (kA_75 _ _) ?_
          have hm81 : kI (kA (kA mL1 74 (up (mL1.2.1 74) r_1 1)) 75 (up (mL1.2.1 75) ((6 * n) + r_1) 1)) := kI_U hm79 75 rfl (show ((-9223372036854775808) : Int) ≤ 1 by omega) (show 1 ≤ (9223372036854775807 : Int) by omega)
          have hf82 : fr [] [74, 75] m (kA (kA mL1 74 (up (mL1.2.1 74) r_1 1)) 75 (up (mL1.2.1 75) ((6 * n) + r_1) 1)) := fr_A hf80 75 _ rfl
          refine g_iinc (n := 2) (lo' := [(0, vR 61), (1, vI n)]) rfl rfl rfl ?_
          refine g_goto rfl ?_
          exact ih2_1 _ (by omega) (r_1 + 1) (kA (kA mL1 74 (up (mL1.2.1 74) r_1 1)) 75 (up (mL1.2.1 75) ((6 * n) + r_1) 1)) hm81 hf82 (by omega) rfl
  exact L2_1 _ 0 m hm hf0 (by omega) rfl
theorem d_night {V : cg_V} {d q : Nat} (hd : 3 ≤ d) (hq : 78 ≤ q) {m : kM} (hm : kI m) {n w : Int} (h_n : (-2147483648) ≤ n ∧ n ≤ 2147483647) (h_w : (-2147483648) ≤ w ∧ w ≤ 2147483647) : cg_S V d q mX10_night [vR 61, vI n, vI w] (kl m) (R_J (fun z m' => (kI m') ∧ (fr [] [74, 75] m m') ∧ (-9223372036854775808 ≤ z) ∧ (z < 9223372036854775808))) := by
  have hf0 : fr [] [74, 75] m m := fr_rf m
  refine cg_of (List.mem_of_getElem? (show ae_MT[184]? = some mX10_night from rfl)) (Nat.le_of_ble_eq_true rfl) ?_
  show cg_G V mX10_night d q _ 0 [(0, vR 61), (1, vI n), (2, vI w)] [] (kl m) 0 0
  refine g_iload_n (n := 1) rfl rfl ?_
  refine c_sI (ps := [vI n]) (r := []) (as := [vI n]) (cs' := 0) (sl' := 0) rfl rfl rfl rfl rfl rfl (d_isNight (d := d - 1) (q := q - (1 + 19)) (by omega) (by omega) hm (a := n) (show (-2147483648) ≤ n ∧ n ≤ 2147483647 by omega)) (by omega) (show 1 + 19 ≤ q by omega) (Nat.le_of_ble_eq_true rfl) (Nat.le_of_ble_eq_true rfl) rfl rfl rfl ?_
  rintro z1 m2 ⟨rfl, p4⟩
  refine g_if_eq (by omega) (by omega) rfl ?_ ?_
  · intro k5
    refine g_ldc2 (x := (-3)) (by decide) rfl ?_
    refine g_lret rfl rfl ?_
    exact ⟨_, _, rfl, hm, hf0, (by omega), (by omega)⟩
  · intro k6
    refine g_iload_n (n := 2) rfl rfl ?_
    refine g_i2l (by omega) (by omega) rfl ?_
    refine g_lconst (x := 0) (by decide) rfl ?_
    refine g_lconst (x := 1) (by decide) rfl ?_
    refine c_sI (ps := [vL 1, vL 0, vL w]) (r := []) (as := [vL w, vL 0, vL 1]) (cs' := 0) (sl' := 0) rfl rfl rfl rfl rfl rfl (d_in (d := d - 1) (q := q - (6 + 19)) (by omega) (by omega) hm (a := w) (b := 0) (c := 1) (show (-9223372036854775808) ≤ w ∧ w ≤ 9223372036854775807 by omega) (show (-9223372036854775808) ≤ 0 ∧ 0 ≤ 9223372036854775807 by omega) (show (-9223372036854775808) ≤ 1 ∧ 1 ≤ 9223372036854775807 by omega)) (by omega) (show 6 + 19 ≤ q by omega) (Nat.le_of_ble_eq_true rfl) (Nat.le_of_ble_eq_true rfl) rfl rfl rfl ?_
    rintro z7 m8 ⟨rfl, p10⟩
    refine g_if_ne (by omega) (by omega) rfl ?_ ?_
    · intro k11
      refine g_aload_n (n := 0) rfl rfl ?_
      refine g_iload_n (n := 1) rfl rfl ?_
      refine c_vV (i := 61) (ps := [vI n]) (r := []) (as := [vR 61, vI n]) (cs' := 0) (sl' := 0) rfl rfl rfl rfl rfl rfl (kl_61 _) (d_layNight (d := d - 1) (q := q - (7 + 19)) (by omega) (by omega) hm (n := n) (show 1 ≤ n ∧ n ≤ 10 by omega)) (by omega) (show 7 + 19 ≤ q by omega) (Nat.le_of_ble_eq_true rfl) (Nat.le_of_ble_eq_true rfl) rfl rfl rfl ?_
      rintro m13 ⟨hm15, hc16⟩
      have hf17 : fr [] [74, 75] m m13 := fr_tr hf0 (fr_le hc16 rfl rfl)
      refine g_lconst (x := 0) (by decide) rfl ?_
      refine g_lstore_n (n := 3) (lo' := [(0, vR 61), (1, vI n), (2, vI w)]) rfl rfl ?_
      refine g_iconst rfl ?_
      refine g_istore (n := 5) (lo' := [(3, vL 0), (0, vR 61), (1, vI n), (2, vI w)]) rfl rfl ?_
      refine g_iconst rfl ?_
      refine g_istore (n := 6) (lo' := [(5, vI 0), (3, vL 0), (0, vR 61), (1, vI n), (2, vI w)]) rfl rfl ?_
      have L34_1 : ∀ (n34_1 : Nat) (s_1 : Int) (b_1 : Int) (r_1 : Int), ((-9223372036854775808) ≤ s_1 ∧ s_1 ≤ 9223372036854775807) → ((-2147483648) ≤ b_1 ∧ b_1 ≤ 2147483647) → (0 ≤ r_1 ∧ r_1 ≤ 6) → ((6 - r_1).toNat) = n34_1 → cg_G V mX10_night d q (R_J (fun z m' => (kI m') ∧ (fr [] [74, 75] m m') ∧ (-9223372036854775808 ≤ z) ∧ (z < 9223372036854775808))) 34 [(6, vI r_1), (5, vI b_1), (3, vL s_1), (0, vR 61), (1, vI n), (2, vI w)] [] (kl m13) 0 0 := by
        intro n34_1
        induction n34_1 using Nat.strongRecOn with
        | _ n34_1 ih34_1 =>
          intro s_1 b_1 r_1 i18 i19 i20 q21
          refine g_iload (n := 6) rfl rfl ?_
          refine g_aload_n (n := 0) rfl rfl ?_
          have h22 : 2 ≤ m13.1 25 ∧ m13.1 25 ≤ 6 := hm15.1 25
          have h23 : m13.1 25 = m.1 25 := hc16.1 25 rfl
          refine g_getf (v := vI (m13.1 25)) rfl (kl_61 _) rfl ?_
          refine g_icmp_ge (by omega) (by omega) (by omega) (by omega) rfl ?_ ?_
          · intro k24
            refine g_iload_n (n := 2) rfl rfl ?_
            refine g_if_ne (by omega) (by omega) rfl ?_ ?_
            · intro k25
              refine g_iload (n := 5) rfl rfl ?_
              refine g_i2l (by omega) (by omega) rfl ?_
              refine g_lret rfl rfl ?_
              exact ⟨_, _, rfl, hm15, hf17, (by omega), (by omega)⟩
            · intro k26
              refine g_lload_n (n := 3) rfl rfl ?_
              refine g_goto rfl ?_
              refine g_lret rfl rfl ?_
              exact ⟨_, _, rfl, hm15, hf17, (by omega), (by omega)⟩
          · intro k27
            refine g_lload_n (n := 3) rfl rfl ?_
            refine g_aload_n (n := 0) rfl rfl ?_
            refine g_getf (v := vR 74) rfl (kl_61 _) rfl ?_
            refine g_bipush (by decide) rfl ?_
            refine g_iload_n (n := 1) rfl rfl ?_
            refine g_imul rfl ?_
            refine g_nrm ?_
            intro z28 h29 h30 h31 h32
            refine g_iload (n := 6) rfl rfl ?_
            refine g_iadd rfl ?_
            refine g_nrm ?_
            intro z33 h34 h35 h36 h37
            have h38 : (-9223372036854775808) ≤ m13.2.1 74 z33 ∧ m13.2.1 74 z33 ≤ 9223372036854775807 := hm15.2 74 z33 (by omega) (show z33 < (66 : Int) by omega)
            refine g_lald (f := m13.2.1 74) rfl (kl_74 _) (by decide) (by omega) (by omega) ?_
            refine g_ladd rfl ?_
            refine g_nrmL ?_
            intro z39 h40 h41 h42 h43
            refine g_lstore_n (n := 3) (lo' := [(6, vI r_1), (5, vI b_1), (0, vR 61), (1, vI n), (2, vI w)]) rfl rfl ?_
            refine g_iload (n := 5) rfl rfl ?_
            refine g_aload_n (n := 0) rfl rfl ?_
            refine g_getf (v := vR 74) rfl (kl_61 _) rfl ?_
            refine g_bipush (by decide) rfl ?_
            refine g_iload_n (n := 1) rfl rfl ?_
            refine g_imul rfl ?_
            refine g_nrm ?_
            intro z44 h45 h46 h47 h48
            refine g_iload (n := 6) rfl rfl ?_
            refine g_iadd rfl ?_
            refine g_nrm ?_
            intro z49 h50 h51 h52 h53
            have h54 : (-9223372036854775808) ≤ m13.2.1 74 z49 ∧ m13.2.1 74 z49 ≤ 9223372036854775807 := hm15.2 74 z49 (by omega) (show z49 < (66 : Int) by omega)
            refine g_lald (f := m13.2.1 74) rfl (kl_74 _) (by decide) (by omega) (by omega) ?_
            refine g_lconst (x := 0) (by decide) rfl ?_
            refine g_lcmp (by omega) (by omega) (by decide) (by decide) rfl ?_
            intro z55 h56
            refine g_if_le (by omega) (by omega) rfl ?_ ?_
            · intro k57
              refine g_iconst rfl ?_
              refine g_ior rfl ?_
              intro z58 h59 h60 h61
              have h62 : z58 = b_1 := b_or0 h59 (by omega) (by omega)
              refine g_istore (n := 5) (lo' := [(3, vL z39), (6, vI r_1), (0, vR 61), (1, vI n), (2, vI w)]) rfl rfl ?_
              refine g_iinc (n := 6) (lo' := [(5, vI z58), (3, vL z39), (0, vR 61), (1, vI n), (2, vI w)]) rfl rfl rfl ?_
              refine g_goto rfl ?_
              exact ih34_1 _ (by omega) z39 z58 (r_1 + 1) (by omega) (by omega) (by omega) rfl
            · intro k63
              refine g_iconst rfl ?_
              refine g_iload (n := 6) rfl rfl ?_
              refine g_ishl rfl ?_
              intro z64 h65 h66 h67
              refine g_goto rfl ?_
              refine g_ior rfl ?_
              intro z69 h70 h71 h72
              refine g_istore (n := 5) (lo' := [(3, vL z39), (6, vI r_1), (0, vR 61), (1, vI n), (2, vI w)]) rfl rfl ?_
              refine g_iinc (n := 6) (lo' := [(5, vI z69), (3, vL z39), (0, vR 61), (1, vI n), (2, vI w)]) rfl rfl rfl ?_
              refine g_goto rfl ?_
              exact ih34_1 _ (by omega) z39 z69 (r_1 + 1) (by omega) (by omega) (by omega) rfl
      exact L34_1 _ 0 0 0 (by omega) (by omega) (by omega) rfl
    · intro k74
      refine g_ldc2 (x := (-3)) (by decide) rfl ?_
      refine g_lret rfl rfl ?_
      exact ⟨_, _, rfl, hm, hf0, (by omega), (by omega)⟩
theorem d_ask {V : cg_V} {d q : Nat} (hd : 3 ≤ d) (hq : 78 ≤ q) {m : kM} (hm : kI m) {n : Int} (h_n : (-2147483648) ≤ n ∧ n ≤ 2147483647) : cg_S V d q mX10_ask [vR 61, vI n] (kl m) (R_I (fun z m' => (kI m') ∧ (fr [] [74, 75] m m') ∧ (-3 ≤ z) ∧ (z ≤ 9))) := by
  have hf0 : fr [] [74, 75] m m := fr_rf m
  refine cg_of (List.mem_of_getElem? (show ae_MT[185]? = some mX10_ask from rfl)) (Nat.le_of_ble_eq_true rfl) ?_
  show cg_G V mX10_ask d q _ 0 [(0, vR 61), (1, vI n)] [] (kl m) 0 0
  refine g_iload_n (n := 1) rfl rfl ?_
  refine c_sI (ps := [vI n]) (r := []) (as := [vI n]) (cs' := 0) (sl' := 0) rfl rfl rfl rfl rfl rfl (d_isNight (d := d - 1) (q := q - (1 + 19)) (by omega) (by omega) hm (a := n) (show (-2147483648) ≤ n ∧ n ≤ 2147483647 by omega)) (by omega) (show 1 + 19 ≤ q by omega) (Nat.le_of_ble_eq_true rfl) (Nat.le_of_ble_eq_true rfl) rfl rfl rfl ?_
  rintro z1 m2 ⟨rfl, p4⟩
  refine g_if_ne (by omega) (by omega) rfl ?_ ?_
  · intro k5
    refine g_aload_n (n := 0) rfl rfl ?_
    refine g_iload_n (n := 1) rfl rfl ?_
    refine c_vV (i := 61) (ps := [vI n]) (r := []) (as := [vR 61, vI n]) (cs' := 0) (sl' := 0) rfl rfl rfl rfl rfl rfl (kl_61 _) (d_layNight (d := d - 1) (q := q - (7 + 19)) (by omega) (by omega) hm (n := n) (show 1 ≤ n ∧ n ≤ 10 by omega)) (by omega) (show 7 + 19 ≤ q by omega) (Nat.le_of_ble_eq_true rfl) (Nat.le_of_ble_eq_true rfl) rfl rfl rfl ?_
    rintro m7 ⟨hm9, hc10⟩
    have hf11 : fr [] [74, 75] m m7 := fr_tr hf0 (fr_le hc10 rfl rfl)
    refine g_iconst rfl ?_
    refine g_istore_n (n := 2) (lo' := [(0, vR 61), (1, vI n)]) rfl rfl ?_
    refine g_lconst (x := 0) (by decide) rfl ?_
    refine g_lstore_n (n := 3) (lo' := [(2, vI (-1)), (0, vR 61), (1, vI n)]) rfl rfl ?_
    refine g_iconst rfl ?_
    refine g_istore (n := 5) (lo' := [(3, vL 0), (2, vI (-1)), (0, vR 61), (1, vI n)]) rfl rfl ?_
    have L22_1 : ∀ (n22_1 : Nat) (b_1 : Int) (f_1 : Int) (t_1 : Int), ((-1) ≤ b_1 ∧ b_1 ≤ 9) → ((-9223372036854775808) ≤ f_1 ∧ f_1 ≤ 9223372036854775807) → (0 ≤ t_1 ∧ t_1 ≤ 10) → ((10 - t_1).toNat) = n22_1 → cg_G V mX10_ask d q (R_I (fun z m' => (kI m') ∧ (fr [] [74, 75] m m') ∧ (-3 ≤ z) ∧ (z ≤ 9))) 22 [(5, vI t_1), (3, vL f_1), (2, vI b_1), (0, vR 61), (1, vI n)] [] (kl m7) 0 0 := by
      intro n22_1
      induction n22_1 using Nat.strongRecOn with
      | _ n22_1 ih22_1 =>
        intro b_1 f_1 t_1 i12 i13 i14 q15
        refine g_iload (n := 5) rfl rfl ?_
        refine g_iload_n (n := 1) rfl rfl ?_
        refine g_icmp_ge (by omega) (by omega) (by omega) (by omega) rfl ?_ ?_
        · intro k16
          refine g_iload_n (n := 2) rfl rfl ?_
          refine g_iret rfl rfl ?_
          exact ⟨_, _, rfl, hm9, hf11, (by omega), (by omega)⟩
        · intro k17
          refine g_lconst (x := 0) (by decide) rfl ?_
          refine g_lstore (n := 6) (lo' := [(5, vI t_1), (3, vL f_1), (2, vI b_1), (0, vR 61), (1, vI n)]) rfl rfl ?_
          refine g_iconst rfl ?_
          refine g_istore (n := 8) (lo' := [(6, vL 0), (5, vI t_1), (3, vL f_1), (2, vI b_1), (0, vR 61), (1, vI n)]) rfl rfl ?_
          have L34_2 : ∀ (n34_2 : Nat) (s_2 : Int) (r_2 : Int), ((-9223372036854775808) ≤ s_2 ∧ s_2 ≤ 9223372036854775807) → (0 ≤ r_2 ∧ r_2 ≤ 6) → ((6 - r_2).toNat) = n34_2 → cg_G V mX10_ask d q (R_I (fun z m' => (kI m') ∧ (fr [] [74, 75] m m') ∧ (-3 ≤ z) ∧ (z ≤ 9))) 34 [(8, vI r_2), (6, vL s_2), (5, vI t_1), (3, vL f_1), (2, vI b_1), (0, vR 61), (1, vI n)] [] (kl m7) 0 0 := by
            intro n34_2
            induction n34_2 using Nat.strongRecOn with
            | _ n34_2 ih34_2 =>
              intro s_2 r_2 i18 i19 q20
              refine g_iload (n := 8) rfl rfl ?_
              refine g_aload_n (n := 0) rfl rfl ?_
              have h21 : 2 ≤ m7.1 25 ∧ m7.1 25 ≤ 6 := hm9.1 25
              have h22 : m7.1 25 = m.1 25 := hc10.1 25 rfl
              refine g_getf (v := vI (m7.1 25)) rfl (kl_61 _) rfl ?_
              refine g_icmp_ge (by omega) (by omega) (by omega) (by omega) rfl ?_ ?_
              · intro k23
                refine g_lload (n := 6) rfl rfl ?_
                refine g_lconst (x := 0) (by decide) rfl ?_
                refine g_lcmp (by omega) (by omega) (by decide) (by decide) rfl ?_
                intro z24 h25
                refine g_if_le (by omega) (by omega) rfl ?_ ?_
                · intro k26
                  refine g_iinc (n := 5) (lo' := [(8, vI r_2), (6, vL s_2), (3, vL f_1), (2, vI b_1), (0, vR 61), (1, vI n)]) rfl rfl rfl ?_
                  refine g_goto rfl ?_
                  refine g_pick (lo' := [(5, vI (t_1 + 1)), (3, vL f_1), (2, vI b_1), (0, vR 61), (1, vI n)]) [0, 3, 4, 5, 6] rfl ?_
                  exact ih22_1 _ (by omega) b_1 f_1 (t_1 + 1) (by omega) (by omega) (by omega) rfl
                · intro k27
                  refine g_iload_n (n := 2) rfl rfl ?_
                  refine g_iconst rfl ?_
                  refine g_icmp_eq (by omega) (by omega) (by decide) (by decide) rfl ?_ ?_
                  · intro k28
                    refine g_iload (n := 5) rfl rfl ?_
                    refine g_istore_n (n := 2) (lo' := [(8, vI r_2), (6, vL s_2), (5, vI t_1), (3, vL f_1), (0, vR 61), (1, vI n)]) rfl rfl ?_
                    refine g_lload (n := 6) rfl rfl ?_
                    refine g_lstore_n (n := 3) (lo' := [(2, vI t_1), (8, vI r_2), (6, vL s_2), (5, vI t_1), (0, vR 61), (1, vI n)]) rfl rfl ?_
                    refine g_iinc (n := 5) (lo' := [(3, vL s_2), (2, vI t_1), (8, vI r_2), (6, vL s_2), (0, vR 61), (1, vI n)]) rfl rfl rfl ?_
                    refine g_goto rfl ?_
                    refine g_pick (lo' := [(5, vI (t_1 + 1)), (3, vL s_2), (2, vI t_1), (0, vR 61), (1, vI n)]) [0, 1, 2, 5, 6] rfl ?_
                    exact ih22_1 _ (by omega) t_1 s_2 (t_1 + 1) (by omega) (by omega) (by omega) rfl
                  · intro k29
                    refine g_lload (n := 6) rfl rfl ?_
                    refine g_lload_n (n := 3) rfl rfl ?_
                    refine g_lcmp (by omega) (by omega) (by omega) (by omega) rfl ?_
                    intro z30 h31
                    refine g_if_ge (by omega) (by omega) rfl ?_ ?_
                    · intro k32
                      refine g_iinc (n := 5) (lo' := [(8, vI r_2), (6, vL s_2), (3, vL f_1), (2, vI b_1), (0, vR 61), (1, vI n)]) rfl rfl rfl ?_
                      refine g_goto rfl ?_
                      refine g_pick (lo' := [(5, vI (t_1 + 1)), (3, vL f_1), (2, vI b_1), (0, vR 61), (1, vI n)]) [0, 3, 4, 5, 6] rfl ?_
                      exact ih22_1 _ (by omega) b_1 f_1 (t_1 + 1) (by omega) (by omega) (by omega) rfl
                    · intro k33
                      refine g_iload (n := 5) rfl rfl ?_
                      refine g_istore_n (n := 2) (lo' := [(8, vI r_2), (6, vL s_2), (5, vI t_1), (3, vL f_1), (0, vR 61), (1, vI n)]) rfl rfl ?_
                      refine g_lload (n := 6) rfl rfl ?_
                      refine g_lstore_n (n := 3) (lo' := [(2, vI t_1), (8, vI r_2), (6, vL s_2), (5, vI t_1), (0, vR 61), (1, vI n)]) rfl rfl ?_
                      refine g_iinc (n := 5) (lo' := [(3, vL s_2), (2, vI t_1), (8, vI r_2), (6, vL s_2), (0, vR 61), (1, vI n)]) rfl rfl rfl ?_
                      refine g_goto rfl ?_
                      refine g_pick (lo' := [(5, vI (t_1 + 1)), (3, vL s_2), (2, vI t_1), (0, vR 61), (1, vI n)]) [0, 1, 2, 5, 6] rfl ?_
                      exact ih22_1 _ (by omega) t_1 s_2 (t_1 + 1) (by omega) (by omega) (by omega) rfl
              · intro k34
                refine g_aload_n (n := 0) rfl rfl ?_
                refine g_getf (v := vR 74) rfl (kl_61 _) rfl ?_
                refine g_bipush (by decide) rfl ?_
                refine g_iload (n := 5) rfl rfl ?_
                refine g_imul rfl ?_
                refine g_bipush (by decide) rfl ?_
                refine g_iadd rfl ?_
                refine g_iload (n := 8) rfl rfl ?_
                refine g_iadd rfl ?_
                have h35 : (-9223372036854775808) ≤ m7.2.1 74 (((6 * t_1) + 6) + r_2) ∧ m7.2.1 74 (((6 * t_1) + 6) + r_2) ≤ 9223372036854775807 := hm9.2 74 (((6 * t_1) + 6) + r_2) (by omega) (show (((6 * t_1) + 6) + r_2) < (66 : Int) by omega)
                refine g_lald (f := m7.2.1 74) rfl (kl_74 _) (by decide) (by omega) (by omega) ?_
                refine g_aload_n (n := 0) rfl rfl ?_
                refine g_getf (v := vR 75) rfl (kl_61 _) rfl ?_
                refine g_bipush (by decide) rfl ?_
                refine g_iload (n := 5) rfl rfl ?_
                refine g_imul rfl ?_
                refine g_bipush (by decide) rfl ?_
                refine g_iadd rfl ?_
                refine g_iload (n := 8) rfl rfl ?_
                refine g_iadd rfl ?_
                have h36 : (-9223372036854775808) ≤ m7.2.1 75 (((6 * t_1) + 6) + r_2) ∧ m7.2.1 75 (((6 * t_1) + 6) + r_2) ≤ 9223372036854775807 := hm9.2 75 (((6 * t_1) + 6) + r_2) (by omega) (show (((6 * t_1) + 6) + r_2) < (66 : Int) by omega)
                refine g_lald (f := m7.2.1 75) rfl (kl_75 _) (by decide) (by omega) (by omega) ?_
                refine g_lmul rfl ?_
                refine g_nrmL ?_
                intro z37 h38 h39 h40 h41
                refine g_lstore (n := 9) (lo' := [(8, vI r_2), (6, vL s_2), (5, vI t_1), (3, vL f_1), (2, vI b_1), (0, vR 61), (1, vI n)]) rfl rfl ?_
                refine g_lload (n := 9) rfl rfl ?_
                refine g_lload (n := 6) rfl rfl ?_
                refine g_lcmp (by omega) (by omega) (by omega) (by omega) rfl ?_
                intro z42 h43
                refine g_if_le (by omega) (by omega) rfl ?_ ?_
                · intro k44
                  refine g_lload (n := 6) rfl rfl ?_
                  refine g_lstore (n := 6) (lo' := [(9, vL z37), (8, vI r_2), (5, vI t_1), (3, vL f_1), (2, vI b_1), (0, vR 61), (1, vI n)]) rfl rfl ?_
                  refine g_iinc (n := 8) (lo' := [(6, vL s_2), (9, vL z37), (5, vI t_1), (3, vL f_1), (2, vI b_1), (0, vR 61), (1, vI n)]) rfl rfl rfl ?_
                  refine g_goto rfl ?_
                  refine g_pick (lo' := [(8, vI (r_2 + 1)), (6, vL s_2), (5, vI t_1), (3, vL f_1), (2, vI b_1), (0, vR 61), (1, vI n)]) [0, 1, 3, 4, 5, 6, 7] rfl ?_
                  exact ih34_2 _ (by omega) s_2 (r_2 + 1) (by omega) (by omega) rfl
                · intro k45
                  refine g_lload (n := 9) rfl rfl ?_
                  refine g_goto rfl ?_
                  refine g_lstore (n := 6) (lo' := [(9, vL z37), (8, vI r_2), (5, vI t_1), (3, vL f_1), (2, vI b_1), (0, vR 61), (1, vI n)]) rfl rfl ?_
                  refine g_iinc (n := 8) (lo' := [(6, vL z37), (9, vL z37), (5, vI t_1), (3, vL f_1), (2, vI b_1), (0, vR 61), (1, vI n)]) rfl rfl rfl ?_
                  refine g_goto rfl ?_
                  refine g_pick (lo' := [(8, vI (r_2 + 1)), (6, vL z37), (5, vI t_1), (3, vL f_1), (2, vI b_1), (0, vR 61), (1, vI n)]) [0, 1, 3, 4, 5, 6, 7] rfl ?_
                  exact ih34_2 _ (by omega) z37 (r_2 + 1) (by omega) (by omega) rfl
          exact L34_2 _ 0 0 (by omega) (by omega) rfl
    exact L22_1 _ (-1) 0 0 (by omega) (by omega) (by omega) rfl
  · intro k46
    refine g_bipush (by decide) rfl ?_
    refine g_iret rfl rfl ?_
    exact ⟨_, _, rfl, hm, hf0, (by omega), (by omega)⟩
