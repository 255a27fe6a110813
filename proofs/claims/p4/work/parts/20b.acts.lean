/-! ===== contracts: the gaol, acts ===== -/
theorem c_hasDoor {V : cg_V} {d q : Nat} (hd : 0 ≤ d) (hq : 0 ≤ q) {m : kM} (hm : kI m) {a : Int} (h_a : (-2147483648) ≤ a ∧ a ≤ 2147483647) : cg_S V d q mX2_hasDoor [vR 3, vI a] (kl m) (R_I (fun z m' => (m = m') ∧ ((z = 1 ∧ 0 ≤ a ∧ a < m.1 8) ∨ (z = 0 ∧ (a < 0 ∨ m.1 8 ≤ a))))) := by
  refine cg_of (List.mem_of_getElem? (show ae_MT[9]? = some mX2_hasDoor from rfl)) (Nat.le_of_ble_eq_true rfl) ?_
  show cg_G V mX2_hasDoor d q _ 0 [(0, vR 3), (1, vI a)] [] (kl m) 0 0
  have h1 : 0 ≤ m.1 8 ∧ m.1 8 ≤ 10 := hm.1 8
  refine g_iload_n (n := 1) rfl rfl ?_
  refine g_if_lt (by omega) (by omega) rfl ?_ ?_
  · intro kk2
    refine g_iconst rfl ?_
    refine g_zret rfl rfl (by omega) ?_
    exact ⟨_, _, rfl, rfl, (by omega)⟩
  · intro kk3
    refine g_iload_n (n := 1) rfl rfl ?_
    refine g_aload_n (n := 0) rfl rfl ?_
    refine g_getf (v := vI (m.1 8)) rfl (kl_3 _) rfl ?_
    refine g_icmp_ge (by omega) (by omega) (by omega) (by omega) rfl ?_ ?_
    · intro kk4
      refine g_iconst rfl ?_
      refine g_zret rfl rfl (by omega) ?_
      exact ⟨_, _, rfl, rfl, (by omega)⟩
    · intro kk5
      refine g_iconst rfl ?_
      refine g_goto rfl ?_
      refine g_zret rfl rfl (by omega) ?_
      exact ⟨_, _, rfl, rfl, (by omega)⟩
theorem c_hasRoom {V : cg_V} {d q : Nat} (hd : 0 ≤ d) (hq : 0 ≤ q) {m : kM} (hm : kI m) {a : Int} (h_a : (-2147483648) ≤ a ∧ a ≤ 2147483647) : cg_S V d q mX2_hasRoom [vR 3, vI a] (kl m) (R_I (fun z m' => (m = m') ∧ ((z = 1 ∧ 0 ≤ a ∧ a < m.1 7) ∨ (z = 0 ∧ (a < 0 ∨ m.1 7 ≤ a))))) := by
  refine cg_of (List.mem_of_getElem? (show ae_MT[44]? = some mX2_hasRoom from rfl)) (Nat.le_of_ble_eq_true rfl) ?_
  show cg_G V mX2_hasRoom d q _ 0 [(0, vR 3), (1, vI a)] [] (kl m) 0 0
  have h1 : 2 ≤ m.1 7 ∧ m.1 7 ≤ 6 := hm.1 7
  refine g_iload_n (n := 1) rfl rfl ?_
  refine g_if_lt (by omega) (by omega) rfl ?_ ?_
  · intro kk2
    refine g_iconst rfl ?_
    refine g_zret rfl rfl (by omega) ?_
    exact ⟨_, _, rfl, rfl, (by omega)⟩
  · intro kk3
    refine g_iload_n (n := 1) rfl rfl ?_
    refine g_aload_n (n := 0) rfl rfl ?_
    refine g_getf (v := vI (m.1 7)) rfl (kl_3 _) rfl ?_
    refine g_icmp_ge (by omega) (by omega) (by omega) (by omega) rfl ?_ ?_
    · intro kk4
      refine g_iconst rfl ?_
      refine g_zret rfl rfl (by omega) ?_
      exact ⟨_, _, rfl, rfl, (by omega)⟩
    · intro kk5
      refine g_iconst rfl ?_
      refine g_goto rfl ?_
      refine g_zret rfl rfl (by omega) ?_
      exact ⟨_, _, rfl, rfl, (by omega)⟩
theorem c_behind {V : cg_V} {d q : Nat} (hd : 1 ≤ d) (hq : 21 ≤ q) {m : kM} (hm : kI m) {a r : Int} (h_a : (-2147483648) ≤ a ∧ a ≤ 2147483647) (h_r : (-2147483648) ≤ r ∧ r ≤ 2147483647) : cg_S V d q mX2_behind [vR 3, vI a, vI r] (kl m) (R_I (fun z m' => (m = m') ∧ (z = -1 ∨ (0 ≤ z ∧ z ≤ 5 ∧ 0 ≤ a ∧ a < m.1 8)) ∧ (BHZ m a r z))) := by
  refine cg_of (List.mem_of_getElem? (show ae_MT[10]? = some mX2_behind from rfl)) (Nat.le_of_ble_eq_true rfl) ?_
  show cg_G V mX2_behind d q _ 0 [(0, vR 3), (1, vI a), (2, vI r)] [] (kl m) 0 0
  have h1 : 0 ≤ m.1 8 ∧ m.1 8 ≤ 10 := hm.1 8
  refine g_aload_n (n := 0) rfl rfl ?_
  refine g_iload_n (n := 1) rfl rfl ?_
  refine c_vI (i := 3) (ps := [vI a]) (r := []) (as := [vR 3, vI a]) (cs' := 0) (sl' := 0) rfl rfl rfl rfl rfl rfl (kl_3 _) (c_hasDoor (d := d - 1) (q := q - (2 + 19)) (by omega) (by omega) hm (a := a) (show (-2147483648) ≤ a ∧ a ≤ 2147483647 by omega)) (by omega) (show 2 + 19 ≤ q by omega) (Nat.le_of_ble_eq_true rfl) (Nat.le_of_ble_eq_true rfl) rfl rfl rfl ?_
  rintro z2 m3 ⟨rfl, p5⟩
  refine g_if_ne (by omega) (by omega) rfl ?_ ?_
  · intro kk6
    refine g_aload_n (n := 0) rfl rfl ?_
    refine g_getf (v := vR 4) rfl (kl_3 _) rfl ?_
    refine g_iload_n (n := 1) rfl rfl ?_
    have h7 : 0 ≤ m.2.1 4 a ∧ m.2.1 4 a ≤ 5 := hm.2 4 a (by omega) (show a < (10 : Int) by omega)
    refine g_iald (f := m.2.1 4) rfl (kl_4 _) (by decide) (by omega) (by omega) ?_
    refine g_iload_n (n := 2) rfl rfl ?_
    refine g_icmp_ne (by omega) (by omega) (by omega) (by omega) rfl ?_ ?_
    · intro kk8
      refine g_aload_n (n := 0) rfl rfl ?_
      refine g_getf (v := vR 5) rfl (kl_3 _) rfl ?_
      refine g_iload_n (n := 1) rfl rfl ?_
      have h9 : 0 ≤ m.2.1 5 a ∧ m.2.1 5 a ≤ 5 := hm.2 5 a (by omega) (show a < (10 : Int) by omega)
      refine g_iald (f := m.2.1 5) rfl (kl_5 _) (by decide) (by omega) (by omega) ?_
      refine g_iload_n (n := 2) rfl rfl ?_
      refine g_icmp_ne (by omega) (by omega) (by omega) (by omega) rfl ?_ ?_
      · intro kk10
        refine g_iconst rfl ?_
        refine g_iret rfl rfl ?_
        exact ⟨_, _, rfl, rfl, (by omega), (by show _ = _; unfold bhk; (repeat' split) <;> omega)⟩
      · intro kk11
        refine g_aload_n (n := 0) rfl rfl ?_
        refine g_getf (v := vR 4) rfl (kl_3 _) rfl ?_
        refine g_iload_n (n := 1) rfl rfl ?_
        have h12 : 0 ≤ m.2.1 4 a ∧ m.2.1 4 a ≤ 5 := hm.2 4 a (by omega) (show a < (10 : Int) by omega)
        refine g_iald (f := m.2.1 4) rfl (kl_4 _) (by decide) (by omega) (by omega) ?_
        refine g_goto rfl ?_
        refine g_iret rfl rfl ?_
        exact ⟨_, _, rfl, rfl, (by omega), (by show _ = _; unfold bhk; (repeat' split) <;> omega)⟩
    · intro kk13
      refine g_aload_n (n := 0) rfl rfl ?_
      refine g_getf (v := vR 5) rfl (kl_3 _) rfl ?_
      refine g_iload_n (n := 1) rfl rfl ?_
      have h14 : 0 ≤ m.2.1 5 a ∧ m.2.1 5 a ≤ 5 := hm.2 5 a (by omega) (show a < (10 : Int) by omega)
      refine g_iald (f := m.2.1 5) rfl (kl_5 _) (by decide) (by omega) (by omega) ?_
      refine g_iret rfl rfl ?_
      exact ⟨_, _, rfl, rfl, (by omega), (by show _ = _; unfold bhk; (repeat' split) <;> omega)⟩
  · intro kk15
    refine g_iconst rfl ?_
    refine g_iret rfl rfl ?_
    exact ⟨_, _, rfl, rfl, (by omega), (by show _ = _; unfold bhk; (repeat' split) <;> omega)⟩
theorem c_opens {V : cg_V} {d q : Nat} (hd : 1 ≤ d) (hq : 21 ≤ q) {m : kM} (hm : kI m) {a r b l : Int} (h_a : (-2147483648) ≤ a ∧ a ≤ 2147483647) (h_r : (-2147483648) ≤ r ∧ r ≤ 2147483647) (h_b : (-2147483648) ≤ b ∧ b ≤ 2147483647) (h_l : 0 ≤ l ∧ l ≤ 1) : cg_S V d q mX2_opens [vR 3, vI a, vI r, vI b, vI l] (kl m) (R_I (fun z m' => (m = m') ∧ (z = 0 ∨ z = 1) ∧ (OPZ m a r b l z))) := by
  refine cg_of (List.mem_of_getElem? (show ae_MT[12]? = some mX2_opens from rfl)) (Nat.le_of_ble_eq_true rfl) ?_
  show cg_G V mX2_opens d q _ 0 [(0, vR 3), (1, vI a), (2, vI r), (3, vI b), (4, vI l)] [] (kl m) 0 0
  refine g_aload_n (n := 0) rfl rfl ?_
  refine g_iload_n (n := 1) rfl rfl ?_
  have h1 : 0 ≤ m.1 8 ∧ m.1 8 ≤ 10 := hm.1 8
  refine c_vI (i := 3) (ps := [vI a]) (r := []) (as := [vR 3, vI a]) (cs' := 0) (sl' := 0) rfl rfl rfl rfl rfl rfl (kl_3 _) (c_hasDoor (d := d - 1) (q := q - (2 + 19)) (by omega) (by omega) hm (a := a) (show (-2147483648) ≤ a ∧ a ≤ 2147483647 by omega)) (by omega) (show 2 + 19 ≤ q by omega) (Nat.le_of_ble_eq_true rfl) (Nat.le_of_ble_eq_true rfl) rfl rfl rfl ?_
  rintro z2 m3 ⟨rfl, p5⟩
  refine g_if_ne (by omega) (by omega) rfl ?_ ?_
  · intro kk6
    refine g_aload_n (n := 0) rfl rfl ?_
    refine g_getf (v := vR 6) rfl (kl_3 _) rfl ?_
    refine g_iload_n (n := 1) rfl rfl ?_
    have h7 : 0 ≤ m.2.1 6 a ∧ m.2.1 6 a ≤ 5 := hm.2 6 a (by omega) (show a < (10 : Int) by omega)
    refine g_iald (f := m.2.1 6) rfl (kl_6 _) (by decide) (by omega) (by omega) ?_
    have kk8 : 4 < m.2.1 6 a ∨ m.2.1 6 a = 0 ∨ m.2.1 6 a = 1 ∨ m.2.1 6 a = 2 ∨ m.2.1 6 a = 3 ∨ m.2.1 6 a = 4 := by omega
    rcases kk8 with kk8 | kk8 | kk8 | kk8 | kk8 | kk8
    · refine g_tsw_out (tg := 105) (by omega) (by omega) rfl (by omega) (by decide) ?_
      refine g_iconst rfl ?_
      refine g_zret rfl rfl (by omega) ?_
      exact ⟨_, _, rfl, rfl, (by omega), (by show _ = _; unfold opk; (repeat' split) <;> omega)⟩
    · refine g_tsw_in (tg := 52) (o9 := 36) (by omega) (by omega) rfl (by omega) (by omega) (by rw [kk8]; rfl) (by decide) ?_
      refine g_iconst rfl ?_
      refine g_zret rfl rfl (by omega) ?_
      exact ⟨_, _, rfl, rfl, (by omega), (by show _ = _; unfold opk; (repeat' split) <;> omega)⟩
    · refine g_tsw_in (tg := 54) (o9 := 38) (by omega) (by omega) rfl (by omega) (by omega) (by rw [kk8]; rfl) (by decide) ?_
      refine g_aload_n (n := 0) rfl rfl ?_
      refine g_getf (v := vR 4) rfl (kl_3 _) rfl ?_
      refine g_iload_n (n := 1) rfl rfl ?_
      have h9 : 0 ≤ m.2.1 4 a ∧ m.2.1 4 a ≤ 5 := hm.2 4 a (by omega) (show a < (10 : Int) by omega)
      refine g_iald (f := m.2.1 4) rfl (kl_4 _) (by decide) (by omega) (by omega) ?_
      refine g_iload_n (n := 2) rfl rfl ?_
      refine g_icmp_ne (by omega) (by omega) (by omega) (by omega) rfl ?_ ?_
      · intro kk10
        refine g_iconst rfl ?_
        refine g_zret rfl rfl (by omega) ?_
        exact ⟨_, _, rfl, rfl, (by omega), (by show _ = _; unfold opk; (repeat' split) <;> omega)⟩
      · intro kk11
        refine g_iconst rfl ?_
        refine g_goto rfl ?_
        refine g_zret rfl rfl (by omega) ?_
        exact ⟨_, _, rfl, rfl, (by omega), (by show _ = _; unfold opk; (repeat' split) <;> omega)⟩
    · refine g_tsw_in (tg := 70) (o9 := 54) (by omega) (by omega) rfl (by omega) (by omega) (by rw [kk8]; rfl) (by decide) ?_
      refine g_iload_n (n := 3) rfl rfl ?_
      refine g_bipush (by decide) rfl ?_
      refine g_icmp_ne (by omega) (by omega) (by decide) (by decide) rfl ?_ ?_
      · intro kk12
        refine g_iconst rfl ?_
        refine g_zret rfl rfl (by omega) ?_
        exact ⟨_, _, rfl, rfl, (by omega), (by show _ = _; unfold opk; (repeat' split) <;> omega)⟩
      · intro kk13
        refine g_iconst rfl ?_
        refine g_goto rfl ?_
        refine g_zret rfl rfl (by omega) ?_
        exact ⟨_, _, rfl, rfl, (by omega), (by show _ = _; unfold opk; (repeat' split) <;> omega)⟩
    · refine g_tsw_in (tg := 82) (o9 := 66) (by omega) (by omega) rfl (by omega) (by omega) (by rw [kk8]; rfl) (by decide) ?_
      refine g_iload (n := 4) rfl rfl ?_
      refine g_if_ne (by omega) (by omega) rfl ?_ ?_
      · intro kk14
        refine g_iconst rfl ?_
        refine g_zret rfl rfl (by omega) ?_
        exact ⟨_, _, rfl, rfl, (by omega), (by show _ = _; unfold opk; (repeat' split) <;> omega)⟩
      · intro kk15
        refine g_iconst rfl ?_
        refine g_goto rfl ?_
        refine g_zret rfl rfl (by omega) ?_
        exact ⟨_, _, rfl, rfl, (by omega), (by show _ = _; unfold opk; (repeat' split) <;> omega)⟩
    · refine g_tsw_in (tg := 93) (o9 := 77) (by omega) (by omega) rfl (by omega) (by omega) (by rw [kk8]; rfl) (by decide) ?_
      refine g_iload_n (n := 3) rfl rfl ?_
      refine g_bipush (by decide) rfl ?_
      refine g_icmp_ne (by omega) (by omega) (by decide) (by decide) rfl ?_ ?_
      · intro kk16
        refine g_iconst rfl ?_
        refine g_zret rfl rfl (by omega) ?_
        exact ⟨_, _, rfl, rfl, (by omega), (by show _ = _; unfold opk; (repeat' split) <;> omega)⟩
      · intro kk17
        refine g_iconst rfl ?_
        refine g_goto rfl ?_
        refine g_zret rfl rfl (by omega) ?_
        exact ⟨_, _, rfl, rfl, (by omega), (by show _ = _; unfold opk; (repeat' split) <;> omega)⟩
  · intro kk18
    refine g_iconst rfl ?_
    refine g_zret rfl rfl (by omega) ?_
    exact ⟨_, _, rfl, rfl, (by omega), (by show _ = _; unfold opk; (repeat' split) <;> omega)⟩
theorem c_keyGoes {V : cg_V} {d q : Nat} (hd : 2 ≤ d) (hq : 45 ≤ q) {m : kM} (hm : kI m) {a r : Int} (h_a : (-2147483648) ≤ a ∧ a ≤ 2147483647) (h_r : (-2147483648) ≤ r ∧ r ≤ 2147483647) : cg_S V d q mX2_keyGoes [vR 3, vI a, vI r] (kl m) (R_I (fun z m' => (m = m') ∧ (z = -1 ∨ (0 ≤ z ∧ z ≤ 5 ∧ 0 ≤ a ∧ a < m.1 8)) ∧ (KGZ m a r z))) := by
  refine cg_of (List.mem_of_getElem? (show ae_MT[46]? = some mX2_keyGoes from rfl)) (Nat.le_of_ble_eq_true rfl) ?_
  show cg_G V mX2_keyGoes d q _ 0 [(0, vR 3), (1, vI a), (2, vI r)] [] (kl m) 0 0
  have h1 : 0 ≤ m.1 8 ∧ m.1 8 ≤ 10 := hm.1 8
  refine g_aload_n (n := 0) rfl rfl ?_
  refine g_iload_n (n := 1) rfl rfl ?_
  refine g_iload_n (n := 2) rfl rfl ?_
  refine c_vI (i := 3) (ps := [vI r, vI a]) (r := []) (as := [vR 3, vI a, vI r]) (cs' := 0) (sl' := 0) rfl rfl rfl rfl rfl rfl (kl_3 _) (c_behind (d := d - 1) (q := q - (3 + 19)) (by omega) (by omega) hm (a := a) (r := r) (show (-2147483648) ≤ a ∧ a ≤ 2147483647 by omega) (show (-2147483648) ≤ r ∧ r ≤ 2147483647 by omega)) (by omega) (show 3 + 19 ≤ q by omega) (Nat.le_of_ble_eq_true rfl) (Nat.le_of_ble_eq_true rfl) rfl rfl rfl ?_
  rintro z2 m3 ⟨rfl, p5, p6⟩
  refine g_istore_n (n := 3) (lo' := [(0, vR 3), (1, vI a), (2, vI r)]) rfl rfl ?_
  refine g_iload_n (n := 3) rfl rfl ?_
  refine g_iconst rfl ?_
  refine g_icmp_eq (by omega) (by omega) (by decide) (by decide) rfl ?_ ?_
  · intro kk7
    refine g_iconst rfl ?_
    refine g_istore (n := 4) (lo' := [(3, vI z2), (0, vR 3), (1, vI a), (2, vI r)]) rfl rfl ?_
    refine g_iload (n := 4) rfl rfl ?_
    refine g_if_eq (by decide) (by decide) rfl ?_ ?_
    · intro kk8
      refine g_iconst rfl ?_
      refine g_iret rfl rfl ?_
      exact ⟨_, _, rfl, rfl, by omega, (by first | exact KGZ_1 hm p6 (by omega))⟩
    · intro kk9
      exfalso; omega
  · intro kk10
    refine g_aload_n (n := 0) rfl rfl ?_
    refine g_iload_n (n := 1) rfl rfl ?_
    refine g_iload_n (n := 2) rfl rfl ?_
    refine g_bipush (by decide) rfl ?_
    refine g_iconst rfl ?_
    refine c_vI (i := 3) (ps := [vI 0, vI 14, vI r, vI a]) (r := []) (as := [vR 3, vI a, vI r, vI 14, vI 0]) (cs' := 0) (sl' := 0) rfl rfl rfl rfl rfl rfl (kl_3 _) (c_opens (d := d - 1) (q := q - (5 + 19)) (by omega) (by omega) hm (a := a) (r := r) (b := 14) (l := 0) (show (-2147483648) ≤ a ∧ a ≤ 2147483647 by omega) (show (-2147483648) ≤ r ∧ r ≤ 2147483647 by omega) (show (-2147483648) ≤ 14 ∧ 14 ≤ 2147483647 by omega) (show 0 ≤ 0 ∧ 0 ≤ 1 by omega)) (by omega) (show 5 + 19 ≤ q by omega) (Nat.le_of_ble_eq_true rfl) (Nat.le_of_ble_eq_true rfl) rfl rfl rfl ?_
    rintro z11 m12 ⟨rfl, p14, p15⟩
    refine g_if_ne (by omega) (by omega) rfl ?_ ?_
    · intro kk16
      refine g_iconst rfl ?_
      refine g_goto rfl ?_
      refine g_istore (n := 4) (lo' := [(3, vI z2), (0, vR 3), (1, vI a), (2, vI r)]) rfl rfl ?_
      refine g_iload (n := 4) rfl rfl ?_
      refine g_if_eq (by decide) (by decide) rfl ?_ ?_
      · intro kk17
        exfalso; omega
      · intro kk18
        refine g_iload_n (n := 3) rfl rfl ?_
        refine g_goto rfl ?_
        refine g_iret rfl rfl ?_
        exact ⟨_, _, rfl, rfl, by omega, (by have ea : z11 = 1 := (by omega); exact KGZ_2 hm p6 (by omega) (Or.inl (ea ▸ p15)))⟩
    · intro kk19
      refine g_aload_n (n := 0) rfl rfl ?_
      refine g_iload_n (n := 1) rfl rfl ?_
      refine g_iload_n (n := 2) rfl rfl ?_
      refine g_bipush (by decide) rfl ?_
      refine g_iconst rfl ?_
      refine c_vI (i := 3) (ps := [vI 0, vI 24, vI r, vI a]) (r := []) (as := [vR 3, vI a, vI r, vI 24, vI 0]) (cs' := 0) (sl' := 0) rfl rfl rfl rfl rfl rfl (kl_3 _) (c_opens (d := d - 1) (q := q - (5 + 19)) (by omega) (by omega) hm (a := a) (r := r) (b := 24) (l := 0) (show (-2147483648) ≤ a ∧ a ≤ 2147483647 by omega) (show (-2147483648) ≤ r ∧ r ≤ 2147483647 by omega) (show (-2147483648) ≤ 24 ∧ 24 ≤ 2147483647 by omega) (show 0 ≤ 0 ∧ 0 ≤ 1 by omega)) (by omega) (show 5 + 19 ≤ q by omega) (Nat.le_of_ble_eq_true rfl) (Nat.le_of_ble_eq_true rfl) rfl rfl rfl ?_
      rintro z20 m21 ⟨rfl, p23, p24⟩
      refine g_if_eq (by omega) (by omega) rfl ?_ ?_
      · intro kk25
        refine g_iconst rfl ?_
        refine g_istore (n := 4) (lo' := [(3, vI z2), (0, vR 3), (1, vI a), (2, vI r)]) rfl rfl ?_
        refine g_iload (n := 4) rfl rfl ?_
        refine g_if_eq (by decide) (by decide) rfl ?_ ?_
        · intro kk26
          refine g_iconst rfl ?_
          refine g_iret rfl rfl ?_
          exact ⟨_, _, rfl, rfl, by omega, (by first | exact KGZ_1 hm p6 (by omega) | (have ea : z11 = 0 := (by omega); have eb : z20 = 0 := (by omega); exact KGZ_3 hm p6 (by omega) (ea ▸ p15) (eb ▸ p24)))⟩
        · intro kk27
          exfalso; omega
      · intro kk28
        refine g_iconst rfl ?_
        refine g_goto rfl ?_
        refine g_istore (n := 4) (lo' := [(3, vI z2), (0, vR 3), (1, vI a), (2, vI r)]) rfl rfl ?_
        refine g_iload (n := 4) rfl rfl ?_
        refine g_if_eq (by decide) (by decide) rfl ?_ ?_
        · intro kk29
          exfalso; omega
        · intro kk30
          refine g_iload_n (n := 3) rfl rfl ?_
          refine g_goto rfl ?_
          refine g_iret rfl rfl ?_
          exact ⟨_, _, rfl, rfl, by omega, (by have ea : z20 = 1 := (by omega); exact KGZ_2 hm p6 (by omega) (Or.inr (ea ▸ p24)))⟩
theorem c_afterHand {V : cg_V} {d q : Nat} (hd : 1 ≤ d) (hq : 21 ≤ q) {m : kM} (hm : kI m) {s g b : Int} (h_s : 0 ≤ s ∧ s ≤ 524287) (h_g : 0 ≤ g ∧ g ≤ 1) (h_b : 0 ≤ b ∧ b ≤ 5) : cg_S V d q mX0_afterHand [vI s, vI g, vI b] (kl m) (R_I (fun z m' => (m = m') ∧ (0 ≤ z) ∧ (z ≤ 524287))) := by
  refine cg_of (List.mem_of_getElem? (show ae_MT[11]? = some mX0_afterHand from rfl)) (Nat.le_of_ble_eq_true rfl) ?_
  show cg_G V mX0_afterHand d q _ 0 [(0, vI s), (1, vI g), (2, vI b)] [] (kl m) 0 0
  refine g_iconst rfl ?_
  refine g_iload_n (n := 1) rfl rfl ?_
  refine g_isub rfl ?_
  refine g_istore_n (n := 3) (lo' := [(0, vI s), (1, vI g), (2, vI b)]) rfl rfl ?_
  refine g_iload_n (n := 0) rfl rfl ?_
  refine g_iload_n (n := 1) rfl rfl ?_
  refine c_sI (ps := [vI g, vI s]) (r := []) (as := [vI s, vI g]) (cs' := 0) (sl' := 0) rfl rfl rfl rfl rfl rfl (c_withoutLoaf (d := d - 1) (q := q - (2 + 19)) (by omega) (by omega) hm (s := s) (g := g) (show 0 ≤ s ∧ s ≤ 524287 by omega) (show 0 ≤ g ∧ g ≤ 1 by omega)) (by omega) (show 2 + 19 ≤ q by omega) (Nat.le_of_ble_eq_true rfl) (Nat.le_of_ble_eq_true rfl) rfl rfl rfl ?_
  rintro z1 m2 ⟨rfl, p4, p5⟩
  refine g_istore (n := 4) (lo' := [(3, vI (1 - g)), (0, vI s), (1, vI g), (2, vI b)]) rfl rfl ?_
  refine g_iload_n (n := 0) rfl rfl ?_
  refine g_iload_n (n := 2) rfl rfl ?_
  refine c_sI (ps := [vI b, vI s]) (r := []) (as := [vI s, vI b]) (cs' := 0) (sl' := 0) rfl rfl rfl rfl rfl rfl (c_hungryIn (d := d - 1) (q := q - (2 + 19)) (by omega) (by omega) hm (s := s) (r := b) (show (-2147483648) ≤ s ∧ s ≤ 2147483647 by omega) (show (-2147483648) ≤ b ∧ b ≤ 2147483647 by omega)) (by omega) (show 2 + 19 ≤ q by omega) (Nat.le_of_ble_eq_true rfl) (Nat.le_of_ble_eq_true rfl) rfl rfl rfl ?_
  rintro z6 m7 ⟨rfl, p9, p10⟩
  refine g_if_eq (by omega) (by omega) rfl ?_ ?_
  · intro kk11
    refine g_iload_n (n := 0) rfl rfl ?_
    refine g_iload_n (n := 3) rfl rfl ?_
    refine c_sI (ps := [vI (1 - g), vI s]) (r := []) (as := [vI s, vI (1 - g)]) (cs' := 0) (sl' := 0) rfl rfl rfl rfl rfl rfl (c_roomOf (d := d - 1) (q := q - (2 + 19)) (by omega) (by omega) hm (s := s) (g := (1 - g)) (show (-2147483648) ≤ s ∧ s ≤ 2147483647 by omega) (show 0 ≤ (1 - g) ∧ (1 - g) ≤ 1 by omega)) (by omega) (show 2 + 19 ≤ q by omega) (Nat.le_of_ble_eq_true rfl) (Nat.le_of_ble_eq_true rfl) rfl rfl rfl ?_
    rintro z12 m13 ⟨rfl, p15, p16⟩
    refine g_iload_n (n := 2) rfl rfl ?_
    refine g_icmp_ne (by omega) (by omega) (by omega) (by omega) rfl ?_ ?_
    · intro kk17
      refine g_iconst rfl ?_
      refine g_istore (n := 5) (lo' := [(4, vI z1), (3, vI (1 - g)), (0, vI s), (1, vI g), (2, vI b)]) rfl rfl ?_
      refine g_iload (n := 5) rfl rfl ?_
      refine g_if_eq (by decide) (by decide) rfl ?_ ?_
      · intro kk18
        refine g_iload (n := 4) rfl rfl ?_
        refine g_iret rfl rfl ?_
        exact ⟨_, _, rfl, rfl, (by omega), (by omega)⟩
      · intro kk19
        exfalso; omega
    · intro kk20
      refine g_iload_n (n := 0) rfl rfl ?_
      refine g_iload_n (n := 3) rfl rfl ?_
      refine c_sI (ps := [vI (1 - g), vI s]) (r := []) (as := [vI s, vI (1 - g)]) (cs' := 0) (sl' := 0) rfl rfl rfl rfl rfl rfl (c_hasOf (d := d - 1) (q := q - (2 + 19)) (by omega) (by omega) hm (s := s) (g := (1 - g)) (show (-2147483648) ≤ s ∧ s ≤ 2147483647 by omega) (show 0 ≤ (1 - g) ∧ (1 - g) ≤ 1 by omega)) (by omega) (show 2 + 19 ≤ q by omega) (Nat.le_of_ble_eq_true rfl) (Nat.le_of_ble_eq_true rfl) rfl rfl rfl ?_
      rintro z21 m22 ⟨rfl, p24, p25⟩
      refine g_if_ne (by omega) (by omega) rfl ?_ ?_
      · intro kk26
        refine g_iconst rfl ?_
        refine g_istore (n := 5) (lo' := [(4, vI z1), (3, vI (1 - g)), (0, vI s), (1, vI g), (2, vI b)]) rfl rfl ?_
        refine g_iload (n := 5) rfl rfl ?_
        refine g_if_eq (by decide) (by decide) rfl ?_ ?_
        · intro kk27
          refine g_iload (n := 4) rfl rfl ?_
          refine g_iret rfl rfl ?_
          exact ⟨_, _, rfl, rfl, (by omega), (by omega)⟩
        · intro kk28
          exfalso; omega
      · intro kk29
        refine g_iconst rfl ?_
        refine g_goto rfl ?_
        refine g_istore (n := 5) (lo' := [(4, vI z1), (3, vI (1 - g)), (0, vI s), (1, vI g), (2, vI b)]) rfl rfl ?_
        refine g_iload (n := 5) rfl rfl ?_
        refine g_if_eq (by decide) (by decide) rfl ?_ ?_
        · intro kk30
          exfalso; omega
        · intro kk31
          refine g_iload (n := 4) rfl rfl ?_
          refine g_iload_n (n := 3) rfl rfl ?_
          refine c_sI (ps := [vI (1 - g), vI z1]) (r := []) (as := [vI z1, vI (1 - g)]) (cs' := 0) (sl' := 0) rfl rfl rfl rfl rfl rfl (c_withLoaf (d := d - 1) (q := q - (2 + 19)) (by omega) (by omega) hm (s := z1) (g := (1 - g)) (show 0 ≤ z1 ∧ z1 ≤ 524287 by omega) (show 0 ≤ (1 - g) ∧ (1 - g) ≤ 1 by omega)) (by omega) (show 2 + 19 ≤ q by omega) (Nat.le_of_ble_eq_true rfl) (Nat.le_of_ble_eq_true rfl) rfl rfl rfl ?_
          rintro z32 m33 ⟨rfl, p35, p36⟩
          refine g_goto rfl ?_
          refine g_iret rfl rfl ?_
          exact ⟨_, _, rfl, rfl, (by omega), (by omega)⟩
  · intro kk37
    refine g_iload (n := 4) rfl rfl ?_
    refine g_iload_n (n := 2) rfl rfl ?_
    refine c_sI (ps := [vI b, vI z1]) (r := []) (as := [vI z1, vI b]) (cs' := 0) (sl' := 0) rfl rfl rfl rfl rfl rfl (c_withFed (d := d - 1) (q := q - (2 + 19)) (by omega) (by omega) hm (s := z1) (r := b) (show 0 ≤ z1 ∧ z1 ≤ 524287 by omega) (show (-2147483648) ≤ b ∧ b ≤ 2147483647 by omega)) (by omega) (show 2 + 19 ≤ q by omega) (Nat.le_of_ble_eq_true rfl) (Nat.le_of_ble_eq_true rfl) rfl rfl rfl ?_
    rintro z38 m39 ⟨rfl, p41, p42⟩
    refine g_iret rfl rfl ?_
    exact ⟨_, _, rfl, rfl, (by omega), (by omega)⟩
theorem c_afterGo {V : cg_V} {d q : Nat} (hd : 1 ≤ d) (hq : 22 ≤ q) {m : kM} (hm : kI m) {s g b : Int} (h_s : 0 ≤ s ∧ s ≤ 524287) (h_g : 0 ≤ g ∧ g ≤ 1) (h_b : 0 ≤ b ∧ b ≤ 5) : cg_S V d q mX0_afterGo [vI s, vI g, vI b] (kl m) (R_I (fun z m' => (m = m') ∧ (0 ≤ z) ∧ (z ≤ 524287))) := by
  refine cg_of (List.mem_of_getElem? (show ae_MT[17]? = some mX0_afterGo from rfl)) (Nat.le_of_ble_eq_true rfl) ?_
  show cg_G V mX0_afterGo d q _ 0 [(0, vI s), (1, vI g), (2, vI b)] [] (kl m) 0 0
  refine g_iload_n (n := 0) rfl rfl ?_
  refine g_iload_n (n := 1) rfl rfl ?_
  refine g_iload_n (n := 2) rfl rfl ?_
  refine c_sI (ps := [vI b, vI g, vI s]) (r := []) (as := [vI s, vI g, vI b]) (cs' := 0) (sl' := 0) rfl rfl rfl rfl rfl rfl (c_withRoom (d := d - 1) (q := q - (3 + 19)) (by omega) (by omega) hm (s := s) (g := g) (r := b) (show 0 ≤ s ∧ s ≤ 524287 by omega) (show 0 ≤ g ∧ g ≤ 1 by omega) (show 0 ≤ b ∧ b ≤ 7 by omega)) (by omega) (show 3 + 19 ≤ q by omega) (Nat.le_of_ble_eq_true rfl) (Nat.le_of_ble_eq_true rfl) rfl rfl rfl ?_
  rintro z1 m2 ⟨rfl, p4, p5⟩
  refine g_iload_n (n := 2) rfl rfl ?_
  refine c_sI (ps := [vI b, vI z1]) (r := []) (as := [vI z1, vI b]) (cs' := 0) (sl' := 0) rfl rfl rfl rfl rfl rfl (c_withKeyAt (d := d - 1) (q := q - (2 + 19)) (by omega) (by omega) hm (s := z1) (p := b) (show 0 ≤ z1 ∧ z1 ≤ 524287 by omega) (show 0 ≤ b ∧ b ≤ 7 by omega)) (by omega) (show 2 + 19 ≤ q by omega) (Nat.le_of_ble_eq_true rfl) (Nat.le_of_ble_eq_true rfl) rfl rfl rfl ?_
  rintro z6 m7 ⟨rfl, p9, p10⟩
  refine g_iret rfl rfl ?_
  exact ⟨_, _, rfl, rfl, (by omega), (by omega)⟩
theorem c_afterSoap {V : cg_V} {d q : Nat} (hd : 1 ≤ d) (hq : 22 ≤ q) {m : kM} (hm : kI m) {s g b : Int} (h_s : 0 ≤ s ∧ s ≤ 524287) (h_g : 0 ≤ g ∧ g ≤ 1) (h_b : 0 ≤ b ∧ b ≤ 5) : cg_S V d q mX0_afterSoap [vI s, vI g, vI b] (kl m) (R_I (fun z m' => (m = m') ∧ (-1 ≤ z) ∧ (z ≤ 524287))) := by
  refine cg_of (List.mem_of_getElem? (show ae_MT[16]? = some mX0_afterSoap from rfl)) (Nat.le_of_ble_eq_true rfl) ?_
  show cg_G V mX0_afterSoap d q _ 0 [(0, vI s), (1, vI g), (2, vI b)] [] (kl m) 0 0
  refine g_iload_n (n := 0) rfl rfl ?_
  refine c_sI (ps := [vI s]) (r := []) (as := [vI s]) (cs' := 0) (sl' := 0) rfl rfl rfl rfl rfl rfl (c_turns (d := d - 1) (q := q - (1 + 19)) (by omega) (by omega) hm (s := s) (show (-2147483648) ≤ s ∧ s ≤ 2147483647 by omega)) (by omega) (show 1 + 19 ≤ q by omega) (Nat.le_of_ble_eq_true rfl) (Nat.le_of_ble_eq_true rfl) rfl rfl rfl ?_
  rintro z1 m2 ⟨rfl, p4, p5⟩
  refine g_istore_n (n := 3) (lo' := [(0, vI s), (1, vI g), (2, vI b)]) rfl rfl ?_
  refine g_iload_n (n := 3) rfl rfl ?_
  refine g_if_le (by omega) (by omega) rfl ?_ ?_
  · intro kk6
    refine g_iconst rfl ?_
    refine g_iret rfl rfl ?_
    exact ⟨_, _, rfl, rfl, (by omega), (by omega)⟩
  · intro kk7
    refine g_iload_n (n := 0) rfl rfl ?_
    refine g_iload_n (n := 1) rfl rfl ?_
    refine g_iload_n (n := 2) rfl rfl ?_
    refine c_sI (ps := [vI b, vI g, vI s]) (r := []) (as := [vI s, vI g, vI b]) (cs' := 0) (sl' := 0) rfl rfl rfl rfl rfl rfl (c_withRoom (d := d - 1) (q := q - (3 + 19)) (by omega) (by omega) hm (s := s) (g := g) (r := b) (show 0 ≤ s ∧ s ≤ 524287 by omega) (show 0 ≤ g ∧ g ≤ 1 by omega) (show 0 ≤ b ∧ b ≤ 7 by omega)) (by omega) (show 3 + 19 ≤ q by omega) (Nat.le_of_ble_eq_true rfl) (Nat.le_of_ble_eq_true rfl) rfl rfl rfl ?_
    rintro z8 m9 ⟨rfl, p11, p12⟩
    refine g_iload_n (n := 3) rfl rfl ?_
    refine g_iconst rfl ?_
    refine g_isub rfl ?_
    refine c_sI (ps := [vI (z1 - 1), vI z8]) (r := []) (as := [vI z8, vI (z1 - 1)]) (cs' := 0) (sl' := 0) rfl rfl rfl rfl rfl rfl (c_withTurns (d := d - 1) (q := q - (2 + 19)) (by omega) (by omega) hm (s := z8) (t := (z1 - 1)) (show 0 ≤ z8 ∧ z8 ≤ 524287 by omega) (show 0 ≤ (z1 - 1) ∧ (z1 - 1) ≤ 3 by omega)) (by omega) (show 2 + 19 ≤ q by omega) (Nat.le_of_ble_eq_true rfl) (Nat.le_of_ble_eq_true rfl) rfl rfl rfl ?_
    rintro z13 m14 ⟨rfl, p16, p17⟩
    refine g_goto rfl ?_
    refine g_iret rfl rfl ?_
    exact ⟨_, _, rfl, rfl, (by omega), (by omega)⟩
theorem c_afterAtDoor {V : cg_V} {d q : Nat} (hd : 2 ≤ d) (hq : 46 ≤ q) {m : kM} (hm : kI m) {s g w h : Int} (h_s : 0 ≤ s ∧ s ≤ 524287) (h_g : 0 ≤ g ∧ g ≤ 1) (h_w : 4 ≤ w ∧ w ≤ 43) (h_h : 0 ≤ h ∧ h ≤ 2) : cg_S V d q mX0_afterAtDoor [vR 15, vI s, vI g, vI w, vI h] (kl m) (R_I (fun z m' => (m = m') ∧ (-1 ≤ z) ∧ (z ≤ 524287))) := by
  refine cg_of (List.mem_of_getElem? (show ae_MT[18]? = some mX0_afterAtDoor from rfl)) (Nat.le_of_ble_eq_true rfl) ?_
  show cg_G V mX0_afterAtDoor d q _ 0 [(0, vR 15), (1, vI s), (2, vI g), (3, vI w), (4, vI h)] [] (kl m) 0 0
  refine g_iload_n (n := 3) rfl rfl ?_
  refine g_iconst rfl ?_
  refine g_isub rfl ?_
  refine g_bipush (by decide) rfl ?_
  refine g_iremC (by omega) (by omega) (by decide) (by decide) rfl ?_
  intro z1 h2
  refine g_istore (n := 5) (lo' := [(0, vR 15), (1, vI s), (2, vI g), (3, vI w), (4, vI h)]) rfl rfl ?_
  refine g_iload_n (n := 3) rfl rfl ?_
  refine g_iload (n := 5) rfl rfl ?_
  refine g_isub rfl ?_
  refine g_istore (n := 6) (lo' := [(5, vI z1), (0, vR 15), (1, vI s), (2, vI g), (3, vI w), (4, vI h)]) rfl rfl ?_
  refine g_iload_n (n := 1) rfl rfl ?_
  refine g_iload_n (n := 2) rfl rfl ?_
  refine c_sI (ps := [vI g, vI s]) (r := []) (as := [vI s, vI g]) (cs' := 0) (sl' := 0) rfl rfl rfl rfl rfl rfl (c_roomOf (d := d - 1) (q := q - (2 + 19)) (by omega) (by omega) hm (s := s) (g := g) (show (-2147483648) ≤ s ∧ s ≤ 2147483647 by omega) (show 0 ≤ g ∧ g ≤ 1 by omega)) (by omega) (show 2 + 19 ≤ q by omega) (Nat.le_of_ble_eq_true rfl) (Nat.le_of_ble_eq_true rfl) rfl rfl rfl ?_
  rintro z3 m4 ⟨rfl, p6, p7⟩
  refine g_istore (n := 7) (lo' := [(6, vI (w - z1)), (5, vI z1), (0, vR 15), (1, vI s), (2, vI g), (3, vI w), (4, vI h)]) rfl rfl ?_
  refine g_aload_n (n := 0) rfl rfl ?_
  refine g_getf (v := vR 3) rfl (kl_15 _) rfl ?_
  refine g_iload (n := 5) rfl rfl ?_
  refine g_iload (n := 7) rfl rfl ?_
  have h8 : 0 ≤ m.1 8 ∧ m.1 8 ≤ 10 := hm.1 8
  refine c_vI (i := 3) (ps := [vI z3, vI z1]) (r := []) (as := [vR 3, vI z1, vI z3]) (cs' := 0) (sl' := 0) rfl rfl rfl rfl rfl rfl (kl_3 _) (c_behind (d := d - 1) (q := q - (3 + 19)) (by omega) (by omega) hm (a := z1) (r := z3) (show (-2147483648) ≤ z1 ∧ z1 ≤ 2147483647 by omega) (show (-2147483648) ≤ z3 ∧ z3 ≤ 2147483647 by omega)) (by omega) (show 3 + 19 ≤ q by omega) (Nat.le_of_ble_eq_true rfl) (Nat.le_of_ble_eq_true rfl) rfl rfl rfl ?_
  rintro z9 m10 ⟨rfl, p12, p13⟩
  refine g_istore (n := 8) (lo' := [(7, vI z3), (6, vI (w - z1)), (5, vI z1), (0, vR 15), (1, vI s), (2, vI g), (3, vI w), (4, vI h)]) rfl rfl ?_
  refine g_iload (n := 8) rfl rfl ?_
  refine g_iconst rfl ?_
  refine g_icmp_ne (by omega) (by omega) (by decide) (by decide) rfl ?_ ?_
  · intro kk14
    refine g_iload (n := 6) rfl rfl ?_
    refine g_iconst rfl ?_
    refine g_icmp_ne (by omega) (by omega) (by decide) (by decide) rfl ?_ ?_
    · intro kk15
      refine g_iconst rfl ?_
      refine g_iload_n (n := 2) rfl rfl ?_
      refine g_isub rfl ?_
      refine g_istore (n := 9) (lo' := [(8, vI z9), (7, vI z3), (6, vI (w - z1)), (5, vI z1), (0, vR 15), (1, vI s), (2, vI g), (3, vI w), (4, vI h)]) rfl rfl ?_
      refine g_iload (n := 6) rfl rfl ?_
      refine g_bipush (by decide) rfl ?_
      refine g_icmp_ne (by omega) (by omega) (by decide) (by decide) rfl ?_ ?_
      · intro kk16
        refine g_iconst rfl ?_
        refine g_istore (n := 10) (lo' := [(9, vI (1 - g)), (8, vI z9), (7, vI z3), (6, vI (w - z1)), (5, vI z1), (0, vR 15), (1, vI s), (2, vI g), (3, vI w), (4, vI h)]) rfl rfl ?_
        refine g_iload (n := 4) rfl rfl ?_
        refine g_iload (n := 6) rfl rfl ?_
        refine g_bipush (by decide) rfl ?_
        refine g_icmp_ne (by omega) (by omega) (by decide) (by decide) rfl ?_ ?_
        · intro kk17
          refine g_iconst rfl ?_
          refine g_icmp_ne (by omega) (by omega) (by decide) (by decide) rfl ?_ ?_
          · intro kk18
            refine g_iconst rfl ?_
            refine g_iret rfl rfl ?_
            exact ⟨_, _, rfl, rfl, (by omega), (by omega)⟩
          · intro kk19
            refine g_aload_n (n := 0) rfl rfl ?_
            refine g_getf (v := vR 3) rfl (kl_15 _) rfl ?_
            refine g_iload (n := 5) rfl rfl ?_
            refine g_iload (n := 7) rfl rfl ?_
            refine g_iload (n := 6) rfl rfl ?_
            refine g_iload (n := 10) rfl rfl ?_
            refine c_vI (i := 3) (ps := [vI 0, vI (w - z1), vI z3, vI z1]) (r := []) (as := [vR 3, vI z1, vI z3, vI (w - z1), vI 0]) (cs' := 0) (sl' := 0) rfl rfl rfl rfl rfl rfl (kl_3 _) (c_opens (d := d - 1) (q := q - (5 + 19)) (by omega) (by omega) hm (a := z1) (r := z3) (b := (w - z1)) (l := 0) (show (-2147483648) ≤ z1 ∧ z1 ≤ 2147483647 by omega) (show (-2147483648) ≤ z3 ∧ z3 ≤ 2147483647 by omega) (show (-2147483648) ≤ (w - z1) ∧ (w - z1) ≤ 2147483647 by omega) (show 0 ≤ 0 ∧ 0 ≤ 1 by omega)) (by omega) (show 5 + 19 ≤ q by omega) (Nat.le_of_ble_eq_true rfl) (Nat.le_of_ble_eq_true rfl) rfl rfl rfl ?_
            rintro z20 m21 ⟨rfl, p23, p24⟩
            refine g_if_ne (by omega) (by omega) rfl ?_ ?_
            · intro kk25
              refine g_iload (n := 6) rfl rfl ?_
              refine g_bipush (by decide) rfl ?_
              refine g_icmp_ne (by omega) (by omega) (by decide) (by decide) rfl ?_ ?_
              · intro kk26
                refine g_iload (n := 6) rfl rfl ?_
                refine g_bipush (by decide) rfl ?_
                refine g_icmp_ne (by omega) (by omega) (by decide) (by decide) rfl ?_ ?_
                · intro kk27
                  refine g_iload_n (n := 1) rfl rfl ?_
                  refine g_iload (n := 9) rfl rfl ?_
                  refine c_sI (ps := [vI (1 - g), vI s]) (r := []) (as := [vI s, vI (1 - g)]) (cs' := 0) (sl' := 0) rfl rfl rfl rfl rfl rfl (c_roomOf (d := d - 1) (q := q - (2 + 19)) (by omega) (by omega) hm (s := s) (g := (1 - g)) (show (-2147483648) ≤ s ∧ s ≤ 2147483647 by omega) (show 0 ≤ (1 - g) ∧ (1 - g) ≤ 1 by omega)) (by omega) (show 2 + 19 ≤ q by omega) (Nat.le_of_ble_eq_true rfl) (Nat.le_of_ble_eq_true rfl) rfl rfl rfl ?_
                  rintro z28 m29 ⟨rfl, p31, p32⟩
                  refine g_iload (n := 7) rfl rfl ?_
                  refine g_icmp_ne (by omega) (by omega) (by omega) (by omega) rfl ?_ ?_
                  · intro kk33
                    refine g_iconst rfl ?_
                    refine g_istore (n := 11) (lo' := [(10, vI 0), (9, vI (1 - g)), (8, vI z9), (7, vI z3), (6, vI (w - z1)), (5, vI z1), (0, vR 15), (1, vI s), (2, vI g), (3, vI w), (4, vI h)]) rfl rfl ?_
                    refine g_iload (n := 11) rfl rfl ?_
                    refine g_if_eq (by decide) (by decide) rfl ?_ ?_
                    · intro kk34
                      refine g_iconst rfl ?_
                      refine g_iret rfl rfl ?_
                      exact ⟨_, _, rfl, rfl, (by omega), (by omega)⟩
                    · intro kk35
                      exfalso; omega
                  · intro kk36
                    refine g_iconst rfl ?_
                    refine g_goto rfl ?_
                    refine g_istore (n := 11) (lo' := [(10, vI 0), (9, vI (1 - g)), (8, vI z9), (7, vI z3), (6, vI (w - z1)), (5, vI z1), (0, vR 15), (1, vI s), (2, vI g), (3, vI w), (4, vI h)]) rfl rfl ?_
                    refine g_iload (n := 11) rfl rfl ?_
                    refine g_if_eq (by decide) (by decide) rfl ?_ ?_
                    · intro kk37
                      exfalso; omega
                    · intro kk38
                      refine g_iload_n (n := 1) rfl rfl ?_
                      refine g_iload (n := 9) rfl rfl ?_
                      refine g_iload (n := 8) rfl rfl ?_
                      refine c_sI (ps := [vI z9, vI (1 - g), vI s]) (r := []) (as := [vI s, vI (1 - g), vI z9]) (cs' := 0) (sl' := 0) rfl rfl rfl rfl rfl rfl (c_withRoom (d := d - 1) (q := q - (3 + 19)) (by omega) (by omega) hm (s := s) (g := (1 - g)) (r := z9) (show 0 ≤ s ∧ s ≤ 524287 by omega) (show 0 ≤ (1 - g) ∧ (1 - g) ≤ 1 by omega) (show 0 ≤ z9 ∧ z9 ≤ 7 by omega)) (by omega) (show 3 + 19 ≤ q by omega) (Nat.le_of_ble_eq_true rfl) (Nat.le_of_ble_eq_true rfl) rfl rfl rfl ?_
                      rintro z39 m40 ⟨rfl, p42, p43⟩
                      refine g_iload_n (n := 2) rfl rfl ?_
                      refine g_iload (n := 8) rfl rfl ?_
                      refine c_sI (ps := [vI z9, vI g, vI z39]) (r := []) (as := [vI z39, vI g, vI z9]) (cs' := 0) (sl' := 0) rfl rfl rfl rfl rfl rfl (c_afterGo (d := d - 1) (q := q - (3 + 19)) (by omega) (by omega) hm (s := z39) (g := g) (b := z9) (show 0 ≤ z39 ∧ z39 ≤ 524287 by omega) (show 0 ≤ g ∧ g ≤ 1 by omega) (show 0 ≤ z9 ∧ z9 ≤ 5 by omega)) (by omega) (show 3 + 19 ≤ q by omega) (Nat.le_of_ble_eq_true rfl) (Nat.le_of_ble_eq_true rfl) rfl rfl rfl ?_
                      rintro z44 m45 ⟨rfl, p47, p48⟩
                      refine g_goto rfl ?_
                      refine g_iret rfl rfl ?_
                      exact ⟨_, _, rfl, rfl, (by omega), (by omega)⟩
                · intro kk49
                  refine g_iload_n (n := 1) rfl rfl ?_
                  refine g_iload_n (n := 2) rfl rfl ?_
                  refine g_iload (n := 8) rfl rfl ?_
                  refine c_sI (ps := [vI z9, vI g, vI s]) (r := []) (as := [vI s, vI g, vI z9]) (cs' := 0) (sl' := 0) rfl rfl rfl rfl rfl rfl (c_afterGo (d := d - 1) (q := q - (3 + 19)) (by omega) (by omega) hm (s := s) (g := g) (b := z9) (show 0 ≤ s ∧ s ≤ 524287 by omega) (show 0 ≤ g ∧ g ≤ 1 by omega) (show 0 ≤ z9 ∧ z9 ≤ 5 by omega)) (by omega) (show 3 + 19 ≤ q by omega) (Nat.le_of_ble_eq_true rfl) (Nat.le_of_ble_eq_true rfl) rfl rfl rfl ?_
                  rintro z50 m51 ⟨rfl, p53, p54⟩
                  refine g_iret rfl rfl ?_
                  exact ⟨_, _, rfl, rfl, (by omega), (by omega)⟩
              · intro kk55
                refine g_iload_n (n := 1) rfl rfl ?_
                refine g_iload_n (n := 2) rfl rfl ?_
                refine g_iload (n := 8) rfl rfl ?_
                refine c_sI (ps := [vI z9, vI g, vI s]) (r := []) (as := [vI s, vI g, vI z9]) (cs' := 0) (sl' := 0) rfl rfl rfl rfl rfl rfl (c_afterSoap (d := d - 1) (q := q - (4 + 19)) (by omega) (by omega) hm (s := s) (g := g) (b := z9) (show 0 ≤ s ∧ s ≤ 524287 by omega) (show 0 ≤ g ∧ g ≤ 1 by omega) (show 0 ≤ z9 ∧ z9 ≤ 5 by omega)) (by omega) (show 4 + 19 ≤ q by omega) (Nat.le_of_ble_eq_true rfl) (Nat.le_of_ble_eq_true rfl) rfl rfl rfl ?_
                rintro z56 m57 ⟨rfl, p59, p60⟩
                refine g_iret rfl rfl ?_
                exact ⟨_, _, rfl, rfl, (by omega), (by omega)⟩
            · intro kk61
              refine g_iconst rfl ?_
              refine g_iret rfl rfl ?_
              exact ⟨_, _, rfl, rfl, (by omega), (by omega)⟩
        · intro kk62
          refine g_iconst rfl ?_
          refine g_goto rfl ?_
          refine g_icmp_ne (by omega) (by omega) (by decide) (by decide) rfl ?_ ?_
          · intro kk63
            refine g_iconst rfl ?_
            refine g_iret rfl rfl ?_
            exact ⟨_, _, rfl, rfl, (by omega), (by omega)⟩
          · intro kk64
            refine g_aload_n (n := 0) rfl rfl ?_
            refine g_getf (v := vR 3) rfl (kl_15 _) rfl ?_
            refine g_iload (n := 5) rfl rfl ?_
            refine g_iload (n := 7) rfl rfl ?_
            refine g_iload (n := 6) rfl rfl ?_
            refine g_iload (n := 10) rfl rfl ?_
            refine c_vI (i := 3) (ps := [vI 0, vI (w - z1), vI z3, vI z1]) (r := []) (as := [vR 3, vI z1, vI z3, vI (w - z1), vI 0]) (cs' := 0) (sl' := 0) rfl rfl rfl rfl rfl rfl (kl_3 _) (c_opens (d := d - 1) (q := q - (5 + 19)) (by omega) (by omega) hm (a := z1) (r := z3) (b := (w - z1)) (l := 0) (show (-2147483648) ≤ z1 ∧ z1 ≤ 2147483647 by omega) (show (-2147483648) ≤ z3 ∧ z3 ≤ 2147483647 by omega) (show (-2147483648) ≤ (w - z1) ∧ (w - z1) ≤ 2147483647 by omega) (show 0 ≤ 0 ∧ 0 ≤ 1 by omega)) (by omega) (show 5 + 19 ≤ q by omega) (Nat.le_of_ble_eq_true rfl) (Nat.le_of_ble_eq_true rfl) rfl rfl rfl ?_
            rintro z65 m66 ⟨rfl, p68, p69⟩
            refine g_if_ne (by omega) (by omega) rfl ?_ ?_
            · intro kk70
              refine g_iload (n := 6) rfl rfl ?_
              refine g_bipush (by decide) rfl ?_
              refine g_icmp_ne (by omega) (by omega) (by decide) (by decide) rfl ?_ ?_
              · intro kk71
                exfalso; omega
              · intro kk72
                refine g_iload_n (n := 1) rfl rfl ?_
                refine g_iload_n (n := 2) rfl rfl ?_
                refine g_iload (n := 8) rfl rfl ?_
                refine c_sI (ps := [vI z9, vI g, vI s]) (r := []) (as := [vI s, vI g, vI z9]) (cs' := 0) (sl' := 0) rfl rfl rfl rfl rfl rfl (c_afterSoap (d := d - 1) (q := q - (4 + 19)) (by omega) (by omega) hm (s := s) (g := g) (b := z9) (show 0 ≤ s ∧ s ≤ 524287 by omega) (show 0 ≤ g ∧ g ≤ 1 by omega) (show 0 ≤ z9 ∧ z9 ≤ 5 by omega)) (by omega) (show 4 + 19 ≤ q by omega) (Nat.le_of_ble_eq_true rfl) (Nat.le_of_ble_eq_true rfl) rfl rfl rfl ?_
                rintro z73 m74 ⟨rfl, p76, p77⟩
                refine g_iret rfl rfl ?_
                exact ⟨_, _, rfl, rfl, (by omega), (by omega)⟩
            · intro kk78
              refine g_iconst rfl ?_
              refine g_iret rfl rfl ?_
              exact ⟨_, _, rfl, rfl, (by omega), (by omega)⟩
      · intro kk79
        refine g_iload_n (n := 1) rfl rfl ?_
        refine g_iload (n := 9) rfl rfl ?_
        refine c_sI (ps := [vI (1 - g), vI s]) (r := []) (as := [vI s, vI (1 - g)]) (cs' := 0) (sl' := 0) rfl rfl rfl rfl rfl rfl (c_hasOf (d := d - 1) (q := q - (2 + 19)) (by omega) (by omega) hm (s := s) (g := (1 - g)) (show (-2147483648) ≤ s ∧ s ≤ 2147483647 by omega) (show 0 ≤ (1 - g) ∧ (1 - g) ≤ 1 by omega)) (by omega) (show 2 + 19 ≤ q by omega) (Nat.le_of_ble_eq_true rfl) (Nat.le_of_ble_eq_true rfl) rfl rfl rfl ?_
        rintro z80 m81 ⟨rfl, p83, p84⟩
        refine g_iconst rfl ?_
        refine g_icmp_ne (by omega) (by omega) (by decide) (by decide) rfl ?_ ?_
        · intro kk85
          refine g_iconst rfl ?_
          refine g_istore (n := 10) (lo' := [(9, vI (1 - g)), (8, vI z9), (7, vI z3), (6, vI (w - z1)), (5, vI z1), (0, vR 15), (1, vI s), (2, vI g), (3, vI w), (4, vI h)]) rfl rfl ?_
          refine g_iload (n := 4) rfl rfl ?_
          refine g_iload (n := 6) rfl rfl ?_
          refine g_bipush (by decide) rfl ?_
          refine g_icmp_ne (by omega) (by omega) (by decide) (by decide) rfl ?_ ?_
          · intro kk86
            refine g_iconst rfl ?_
            refine g_icmp_ne (by omega) (by omega) (by decide) (by decide) rfl ?_ ?_
            · intro kk87
              refine g_iconst rfl ?_
              refine g_iret rfl rfl ?_
              exact ⟨_, _, rfl, rfl, (by omega), (by omega)⟩
            · intro kk88
              refine g_aload_n (n := 0) rfl rfl ?_
              refine g_getf (v := vR 3) rfl (kl_15 _) rfl ?_
              refine g_iload (n := 5) rfl rfl ?_
              refine g_iload (n := 7) rfl rfl ?_
              refine g_iload (n := 6) rfl rfl ?_
              refine g_iload (n := 10) rfl rfl ?_
              refine c_vI (i := 3) (ps := [vI 0, vI (w - z1), vI z3, vI z1]) (r := []) (as := [vR 3, vI z1, vI z3, vI (w - z1), vI 0]) (cs' := 0) (sl' := 0) rfl rfl rfl rfl rfl rfl (kl_3 _) (c_opens (d := d - 1) (q := q - (5 + 19)) (by omega) (by omega) hm (a := z1) (r := z3) (b := (w - z1)) (l := 0) (show (-2147483648) ≤ z1 ∧ z1 ≤ 2147483647 by omega) (show (-2147483648) ≤ z3 ∧ z3 ≤ 2147483647 by omega) (show (-2147483648) ≤ (w - z1) ∧ (w - z1) ≤ 2147483647 by omega) (show 0 ≤ 0 ∧ 0 ≤ 1 by omega)) (by omega) (show 5 + 19 ≤ q by omega) (Nat.le_of_ble_eq_true rfl) (Nat.le_of_ble_eq_true rfl) rfl rfl rfl ?_
              rintro z89 m90 ⟨rfl, p92, p93⟩
              refine g_if_ne (by omega) (by omega) rfl ?_ ?_
              · intro kk94
                refine g_iload (n := 6) rfl rfl ?_
                refine g_bipush (by decide) rfl ?_
                refine g_icmp_ne (by omega) (by omega) (by decide) (by decide) rfl ?_ ?_
                · intro kk95
                  refine g_iload (n := 6) rfl rfl ?_
                  refine g_bipush (by decide) rfl ?_
                  refine g_icmp_ne (by omega) (by omega) (by decide) (by decide) rfl ?_ ?_
                  · intro kk96
                    refine g_iload_n (n := 1) rfl rfl ?_
                    refine g_iload (n := 9) rfl rfl ?_
                    refine c_sI (ps := [vI (1 - g), vI s]) (r := []) (as := [vI s, vI (1 - g)]) (cs' := 0) (sl' := 0) rfl rfl rfl rfl rfl rfl (c_roomOf (d := d - 1) (q := q - (2 + 19)) (by omega) (by omega) hm (s := s) (g := (1 - g)) (show (-2147483648) ≤ s ∧ s ≤ 2147483647 by omega) (show 0 ≤ (1 - g) ∧ (1 - g) ≤ 1 by omega)) (by omega) (show 2 + 19 ≤ q by omega) (Nat.le_of_ble_eq_true rfl) (Nat.le_of_ble_eq_true rfl) rfl rfl rfl ?_
                    rintro z97 m98 ⟨rfl, p100, p101⟩
                    refine g_iload (n := 7) rfl rfl ?_
                    refine g_icmp_ne (by omega) (by omega) (by omega) (by omega) rfl ?_ ?_
                    · intro kk102
                      refine g_iconst rfl ?_
                      refine g_istore (n := 11) (lo' := [(10, vI 0), (9, vI (1 - g)), (8, vI z9), (7, vI z3), (6, vI (w - z1)), (5, vI z1), (0, vR 15), (1, vI s), (2, vI g), (3, vI w), (4, vI h)]) rfl rfl ?_
                      refine g_iload (n := 11) rfl rfl ?_
                      refine g_if_eq (by decide) (by decide) rfl ?_ ?_
                      · intro kk103
                        refine g_iconst rfl ?_
                        refine g_iret rfl rfl ?_
                        exact ⟨_, _, rfl, rfl, (by omega), (by omega)⟩
                      · intro kk104
                        exfalso; omega
                    · intro kk105
                      refine g_iconst rfl ?_
                      refine g_goto rfl ?_
                      refine g_istore (n := 11) (lo' := [(10, vI 0), (9, vI (1 - g)), (8, vI z9), (7, vI z3), (6, vI (w - z1)), (5, vI z1), (0, vR 15), (1, vI s), (2, vI g), (3, vI w), (4, vI h)]) rfl rfl ?_
                      refine g_iload (n := 11) rfl rfl ?_
                      refine g_if_eq (by decide) (by decide) rfl ?_ ?_
                      · intro kk106
                        exfalso; omega
                      · intro kk107
                        refine g_iload_n (n := 1) rfl rfl ?_
                        refine g_iload (n := 9) rfl rfl ?_
                        refine g_iload (n := 8) rfl rfl ?_
                        refine c_sI (ps := [vI z9, vI (1 - g), vI s]) (r := []) (as := [vI s, vI (1 - g), vI z9]) (cs' := 0) (sl' := 0) rfl rfl rfl rfl rfl rfl (c_withRoom (d := d - 1) (q := q - (3 + 19)) (by omega) (by omega) hm (s := s) (g := (1 - g)) (r := z9) (show 0 ≤ s ∧ s ≤ 524287 by omega) (show 0 ≤ (1 - g) ∧ (1 - g) ≤ 1 by omega) (show 0 ≤ z9 ∧ z9 ≤ 7 by omega)) (by omega) (show 3 + 19 ≤ q by omega) (Nat.le_of_ble_eq_true rfl) (Nat.le_of_ble_eq_true rfl) rfl rfl rfl ?_
                        rintro z108 m109 ⟨rfl, p111, p112⟩
                        refine g_iload_n (n := 2) rfl rfl ?_
                        refine g_iload (n := 8) rfl rfl ?_
                        refine c_sI (ps := [vI z9, vI g, vI z108]) (r := []) (as := [vI z108, vI g, vI z9]) (cs' := 0) (sl' := 0) rfl rfl rfl rfl rfl rfl (c_afterGo (d := d - 1) (q := q - (3 + 19)) (by omega) (by omega) hm (s := z108) (g := g) (b := z9) (show 0 ≤ z108 ∧ z108 ≤ 524287 by omega) (show 0 ≤ g ∧ g ≤ 1 by omega) (show 0 ≤ z9 ∧ z9 ≤ 5 by omega)) (by omega) (show 3 + 19 ≤ q by omega) (Nat.le_of_ble_eq_true rfl) (Nat.le_of_ble_eq_true rfl) rfl rfl rfl ?_
                        rintro z113 m114 ⟨rfl, p116, p117⟩
                        refine g_goto rfl ?_
                        refine g_iret rfl rfl ?_
                        exact ⟨_, _, rfl, rfl, (by omega), (by omega)⟩
                  · intro kk118
                    exfalso; omega
                · intro kk119
                  exfalso; omega
              · intro kk120
                refine g_iconst rfl ?_
                refine g_iret rfl rfl ?_
                exact ⟨_, _, rfl, rfl, (by omega), (by omega)⟩
          · intro kk121
            exfalso; omega
        · intro kk122
          refine g_iconst rfl ?_
          refine g_goto rfl ?_
          refine g_istore (n := 10) (lo' := [(9, vI (1 - g)), (8, vI z9), (7, vI z3), (6, vI (w - z1)), (5, vI z1), (0, vR 15), (1, vI s), (2, vI g), (3, vI w), (4, vI h)]) rfl rfl ?_
          refine g_iload (n := 4) rfl rfl ?_
          refine g_iload (n := 6) rfl rfl ?_
          refine g_bipush (by decide) rfl ?_
          refine g_icmp_ne (by omega) (by omega) (by decide) (by decide) rfl ?_ ?_
          · intro kk123
            refine g_iconst rfl ?_
            refine g_icmp_ne (by omega) (by omega) (by decide) (by decide) rfl ?_ ?_
            · intro kk124
              refine g_iconst rfl ?_
              refine g_iret rfl rfl ?_
              exact ⟨_, _, rfl, rfl, (by omega), (by omega)⟩
            · intro kk125
              refine g_aload_n (n := 0) rfl rfl ?_
              refine g_getf (v := vR 3) rfl (kl_15 _) rfl ?_
              refine g_iload (n := 5) rfl rfl ?_
              refine g_iload (n := 7) rfl rfl ?_
              refine g_iload (n := 6) rfl rfl ?_
              refine g_iload (n := 10) rfl rfl ?_
              refine c_vI (i := 3) (ps := [vI 1, vI (w - z1), vI z3, vI z1]) (r := []) (as := [vR 3, vI z1, vI z3, vI (w - z1), vI 1]) (cs' := 0) (sl' := 0) rfl rfl rfl rfl rfl rfl (kl_3 _) (c_opens (d := d - 1) (q := q - (5 + 19)) (by omega) (by omega) hm (a := z1) (r := z3) (b := (w - z1)) (l := 1) (show (-2147483648) ≤ z1 ∧ z1 ≤ 2147483647 by omega) (show (-2147483648) ≤ z3 ∧ z3 ≤ 2147483647 by omega) (show (-2147483648) ≤ (w - z1) ∧ (w - z1) ≤ 2147483647 by omega) (show 0 ≤ 1 ∧ 1 ≤ 1 by omega)) (by omega) (show 5 + 19 ≤ q by omega) (Nat.le_of_ble_eq_true rfl) (Nat.le_of_ble_eq_true rfl) rfl rfl rfl ?_
              rintro z126 m127 ⟨rfl, p129, p130⟩
              refine g_if_ne (by omega) (by omega) rfl ?_ ?_
              · intro kk131
                refine g_iload (n := 6) rfl rfl ?_
                refine g_bipush (by decide) rfl ?_
                refine g_icmp_ne (by omega) (by omega) (by decide) (by decide) rfl ?_ ?_
                · intro kk132
                  refine g_iload (n := 6) rfl rfl ?_
                  refine g_bipush (by decide) rfl ?_
                  refine g_icmp_ne (by omega) (by omega) (by decide) (by decide) rfl ?_ ?_
                  · intro kk133
                    refine g_iload_n (n := 1) rfl rfl ?_
                    refine g_iload (n := 9) rfl rfl ?_
                    refine c_sI (ps := [vI (1 - g), vI s]) (r := []) (as := [vI s, vI (1 - g)]) (cs' := 0) (sl' := 0) rfl rfl rfl rfl rfl rfl (c_roomOf (d := d - 1) (q := q - (2 + 19)) (by omega) (by omega) hm (s := s) (g := (1 - g)) (show (-2147483648) ≤ s ∧ s ≤ 2147483647 by omega) (show 0 ≤ (1 - g) ∧ (1 - g) ≤ 1 by omega)) (by omega) (show 2 + 19 ≤ q by omega) (Nat.le_of_ble_eq_true rfl) (Nat.le_of_ble_eq_true rfl) rfl rfl rfl ?_
                    rintro z134 m135 ⟨rfl, p137, p138⟩
                    refine g_iload (n := 7) rfl rfl ?_
                    refine g_icmp_ne (by omega) (by omega) (by omega) (by omega) rfl ?_ ?_
                    · intro kk139
                      refine g_iconst rfl ?_
                      refine g_istore (n := 11) (lo' := [(10, vI 1), (9, vI (1 - g)), (8, vI z9), (7, vI z3), (6, vI (w - z1)), (5, vI z1), (0, vR 15), (1, vI s), (2, vI g), (3, vI w), (4, vI h)]) rfl rfl ?_
                      refine g_iload (n := 11) rfl rfl ?_
                      refine g_if_eq (by decide) (by decide) rfl ?_ ?_
                      · intro kk140
                        refine g_iconst rfl ?_
                        refine g_iret rfl rfl ?_
                        exact ⟨_, _, rfl, rfl, (by omega), (by omega)⟩
                      · intro kk141
                        exfalso; omega
                    · intro kk142
                      refine g_iconst rfl ?_
                      refine g_goto rfl ?_
                      refine g_istore (n := 11) (lo' := [(10, vI 1), (9, vI (1 - g)), (8, vI z9), (7, vI z3), (6, vI (w - z1)), (5, vI z1), (0, vR 15), (1, vI s), (2, vI g), (3, vI w), (4, vI h)]) rfl rfl ?_
                      refine g_iload (n := 11) rfl rfl ?_
                      refine g_if_eq (by decide) (by decide) rfl ?_ ?_
                      · intro kk143
                        exfalso; omega
                      · intro kk144
                        refine g_iload_n (n := 1) rfl rfl ?_
                        refine g_iload (n := 9) rfl rfl ?_
                        refine g_iload (n := 8) rfl rfl ?_
                        refine c_sI (ps := [vI z9, vI (1 - g), vI s]) (r := []) (as := [vI s, vI (1 - g), vI z9]) (cs' := 0) (sl' := 0) rfl rfl rfl rfl rfl rfl (c_withRoom (d := d - 1) (q := q - (3 + 19)) (by omega) (by omega) hm (s := s) (g := (1 - g)) (r := z9) (show 0 ≤ s ∧ s ≤ 524287 by omega) (show 0 ≤ (1 - g) ∧ (1 - g) ≤ 1 by omega) (show 0 ≤ z9 ∧ z9 ≤ 7 by omega)) (by omega) (show 3 + 19 ≤ q by omega) (Nat.le_of_ble_eq_true rfl) (Nat.le_of_ble_eq_true rfl) rfl rfl rfl ?_
                        rintro z145 m146 ⟨rfl, p148, p149⟩
                        refine g_iload_n (n := 2) rfl rfl ?_
                        refine g_iload (n := 8) rfl rfl ?_
                        refine c_sI (ps := [vI z9, vI g, vI z145]) (r := []) (as := [vI z145, vI g, vI z9]) (cs' := 0) (sl' := 0) rfl rfl rfl rfl rfl rfl (c_afterGo (d := d - 1) (q := q - (3 + 19)) (by omega) (by omega) hm (s := z145) (g := g) (b := z9) (show 0 ≤ z145 ∧ z145 ≤ 524287 by omega) (show 0 ≤ g ∧ g ≤ 1 by omega) (show 0 ≤ z9 ∧ z9 ≤ 5 by omega)) (by omega) (show 3 + 19 ≤ q by omega) (Nat.le_of_ble_eq_true rfl) (Nat.le_of_ble_eq_true rfl) rfl rfl rfl ?_
                        rintro z150 m151 ⟨rfl, p153, p154⟩
                        refine g_goto rfl ?_
                        refine g_iret rfl rfl ?_
                        exact ⟨_, _, rfl, rfl, (by omega), (by omega)⟩
                  · intro kk155
                    exfalso; omega
                · intro kk156
                  exfalso; omega
              · intro kk157
                refine g_iconst rfl ?_
                refine g_iret rfl rfl ?_
                exact ⟨_, _, rfl, rfl, (by omega), (by omega)⟩
          · intro kk158
            exfalso; omega
    · intro kk159
      refine g_iload (n := 4) rfl rfl ?_
      refine g_iconst rfl ?_
      refine g_icmp_ne (by omega) (by omega) (by decide) (by decide) rfl ?_ ?_
      · intro kk160
        refine g_iconst rfl ?_
        refine g_istore (n := 9) (lo' := [(8, vI z9), (7, vI z3), (6, vI (w - z1)), (5, vI z1), (0, vR 15), (1, vI s), (2, vI g), (3, vI w), (4, vI h)]) rfl rfl ?_
        refine g_iload (n := 9) rfl rfl ?_
        refine g_if_eq (by decide) (by decide) rfl ?_ ?_
        · intro kk161
          refine g_iconst rfl ?_
          refine g_iret rfl rfl ?_
          exact ⟨_, _, rfl, rfl, (by omega), (by omega)⟩
        · intro kk162
          exfalso; omega
      · intro kk163
        refine g_aload_n (n := 0) rfl rfl ?_
        refine g_getf (v := vR 3) rfl (kl_15 _) rfl ?_
        refine g_getf (v := vR 7) rfl (kl_3 _) rfl ?_
        refine g_iload (n := 5) rfl rfl ?_
        have h164 : 0 ≤ m.2.1 7 z1 ∧ m.2.1 7 z1 ≤ 1 := hm.2 7 z1 (by omega) (show z1 < (10 : Int) by omega)
        refine g_iald (f := m.2.1 7) rfl (kl_7 _) (by decide) (by omega) (by omega) ?_
        refine g_iconst rfl ?_
        refine g_icmp_ne (by omega) (by omega) (by decide) (by decide) rfl ?_ ?_
        · intro kk165
          refine g_iconst rfl ?_
          refine g_istore (n := 9) (lo' := [(8, vI z9), (7, vI z3), (6, vI (w - z1)), (5, vI z1), (0, vR 15), (1, vI s), (2, vI g), (3, vI w), (4, vI h)]) rfl rfl ?_
          refine g_iload (n := 9) rfl rfl ?_
          refine g_if_eq (by decide) (by decide) rfl ?_ ?_
          · intro kk166
            refine g_iconst rfl ?_
            refine g_iret rfl rfl ?_
            exact ⟨_, _, rfl, rfl, (by omega), (by omega)⟩
          · intro kk167
            exfalso; omega
        · intro kk168
          refine g_iconst rfl ?_
          refine g_goto rfl ?_
          refine g_istore (n := 9) (lo' := [(8, vI z9), (7, vI z3), (6, vI (w - z1)), (5, vI z1), (0, vR 15), (1, vI s), (2, vI g), (3, vI w), (4, vI h)]) rfl rfl ?_
          refine g_iload (n := 9) rfl rfl ?_
          refine g_if_eq (by decide) (by decide) rfl ?_ ?_
          · intro kk169
            exfalso; omega
          · intro kk170
            refine g_iload_n (n := 1) rfl rfl ?_
            refine g_iload_n (n := 2) rfl rfl ?_
            refine g_iload (n := 8) rfl rfl ?_
            refine c_sI (ps := [vI z9, vI g, vI s]) (r := []) (as := [vI s, vI g, vI z9]) (cs' := 0) (sl' := 0) rfl rfl rfl rfl rfl rfl (c_afterHand (d := d - 1) (q := q - (6 + 19)) (by omega) (by omega) hm (s := s) (g := g) (b := z9) (show 0 ≤ s ∧ s ≤ 524287 by omega) (show 0 ≤ g ∧ g ≤ 1 by omega) (show 0 ≤ z9 ∧ z9 ≤ 5 by omega)) (by omega) (show 6 + 19 ≤ q by omega) (Nat.le_of_ble_eq_true rfl) (Nat.le_of_ble_eq_true rfl) rfl rfl rfl ?_
            rintro z171 m172 ⟨rfl, p174, p175⟩
            refine g_goto rfl ?_
            refine g_iret rfl rfl ?_
            exact ⟨_, _, rfl, rfl, (by omega), (by omega)⟩
  · intro kk176
    refine g_iconst rfl ?_
    refine g_iret rfl rfl ?_
    exact ⟨_, _, rfl, rfl, (by omega), (by omega)⟩
theorem c_after {V : cg_V} {d q : Nat} (hd : 3 ≤ d) (hq : 77 ≤ q) {m : kM} (hm : kI m) {s c : Int} (h_s : 0 ≤ s ∧ s ≤ 524287) (h_c : 0 ≤ c ∧ c ≤ 99) : cg_S V d q mX0_after [vR 15, vI s, vI c] (kl m) (R_I (fun z m' => (m = m') ∧ (-1 ≤ z) ∧ (z ≤ 524287))) := by
  refine cg_of (List.mem_of_getElem? (show ae_MT[19]? = some mX0_after from rfl)) (Nat.le_of_ble_eq_true rfl) ?_
  show cg_G V mX0_after d q _ 0 [(0, vR 15), (1, vI s), (2, vI c)] [] (kl m) 0 0
  refine g_iload_n (n := 2) rfl rfl ?_
  refine g_bipush (by decide) rfl ?_
  refine g_idivC (by omega) (by omega) (by decide) (by decide) rfl ?_
  intro z1 h2
  refine g_istore_n (n := 3) (lo' := [(0, vR 15), (1, vI s), (2, vI c)]) rfl rfl ?_
  refine g_iload_n (n := 2) rfl rfl ?_
  refine g_bipush (by decide) rfl ?_
  refine g_iremC (by omega) (by omega) (by decide) (by decide) rfl ?_
  intro z3 h4
  refine g_istore (n := 4) (lo' := [(3, vI z1), (0, vR 15), (1, vI s), (2, vI c)]) rfl rfl ?_
  refine g_iload_n (n := 1) rfl rfl ?_
  refine g_iload_n (n := 3) rfl rfl ?_
  refine c_sI (ps := [vI z1, vI s]) (r := []) (as := [vI s, vI z1]) (cs' := 0) (sl' := 0) rfl rfl rfl rfl rfl rfl (c_roomOf (d := d - 1) (q := q - (2 + 19)) (by omega) (by omega) hm (s := s) (g := z1) (show (-2147483648) ≤ s ∧ s ≤ 2147483647 by omega) (show 0 ≤ z1 ∧ z1 ≤ 1 by omega)) (by omega) (show 2 + 19 ≤ q by omega) (Nat.le_of_ble_eq_true rfl) (Nat.le_of_ble_eq_true rfl) rfl rfl rfl ?_
  rintro z5 m6 ⟨rfl, p8, p9⟩
  refine g_istore (n := 5) (lo' := [(4, vI z3), (3, vI z1), (0, vR 15), (1, vI s), (2, vI c)]) rfl rfl ?_
  refine g_iload_n (n := 1) rfl rfl ?_
  refine g_iload_n (n := 3) rfl rfl ?_
  refine c_sI (ps := [vI z1, vI s]) (r := []) (as := [vI s, vI z1]) (cs' := 0) (sl' := 0) rfl rfl rfl rfl rfl rfl (c_hasOf (d := d - 1) (q := q - (2 + 19)) (by omega) (by omega) hm (s := s) (g := z1) (show (-2147483648) ≤ s ∧ s ≤ 2147483647 by omega) (show 0 ≤ z1 ∧ z1 ≤ 1 by omega)) (by omega) (show 2 + 19 ≤ q by omega) (Nat.le_of_ble_eq_true rfl) (Nat.le_of_ble_eq_true rfl) rfl rfl rfl ?_
  rintro z10 m11 ⟨rfl, p13, p14⟩
  refine g_istore (n := 6) (lo' := [(5, vI z5), (4, vI z3), (3, vI z1), (0, vR 15), (1, vI s), (2, vI c)]) rfl rfl ?_
  refine g_iload (n := 4) rfl rfl ?_
  have kk15 : 3 < z3 ∨ z3 = 0 ∨ z3 = 1 ∨ z3 = 2 ∨ z3 = 3 := by omega
  rcases kk15 with kk15 | kk15 | kk15 | kk15 | kk15
  · refine g_tsw_out (tg := 193) (by omega) (by omega) rfl (by omega) (by decide) ?_
    refine g_iload (n := 4) rfl rfl ?_
    refine g_bipush (by decide) rfl ?_
    refine g_icmp_ge (by omega) (by omega) (by decide) (by decide) rfl ?_ ?_
    · intro kk16
      refine g_iconst rfl ?_
      refine g_iret rfl rfl ?_
      exact ⟨_, _, rfl, rfl, (by omega), (by omega)⟩
    · intro kk17
      refine g_aload_n (n := 0) rfl rfl ?_
      refine g_iload_n (n := 1) rfl rfl ?_
      refine g_iload_n (n := 3) rfl rfl ?_
      refine g_iload (n := 4) rfl rfl ?_
      refine g_iload (n := 6) rfl rfl ?_
      refine c_vI (i := 15) (ps := [vI z10, vI z3, vI z1, vI s]) (r := []) (as := [vR 15, vI s, vI z1, vI z3, vI z10]) (cs' := 0) (sl' := 0) rfl rfl rfl rfl rfl rfl (kl_15 _) (c_afterAtDoor (d := d - 1) (q := q - (12 + 19)) (by omega) (by omega) hm (s := s) (g := z1) (w := z3) (h := z10) (show 0 ≤ s ∧ s ≤ 524287 by omega) (show 0 ≤ z1 ∧ z1 ≤ 1 by omega) (show 4 ≤ z3 ∧ z3 ≤ 43 by omega) (show 0 ≤ z10 ∧ z10 ≤ 2 by omega)) (by omega) (show 12 + 19 ≤ q by omega) (Nat.le_of_ble_eq_true rfl) (Nat.le_of_ble_eq_true rfl) rfl rfl rfl ?_
      rintro z18 m19 ⟨rfl, p21, p22⟩
      refine g_goto rfl ?_
      refine g_iret rfl rfl ?_
      exact ⟨_, _, rfl, rfl, (by omega), (by omega)⟩
  · refine g_tsw_in (tg := 56) (o9 := 29) (by omega) (by omega) rfl (by omega) (by omega) (by rw [kk15]; rfl) (by decide) ?_
    refine g_iload (n := 6) rfl rfl ?_
    refine g_if_ne (by omega) (by omega) rfl ?_ ?_
    · intro kk23
      refine g_iconst rfl ?_
      refine g_istore (n := 7) (lo' := [(6, vI z10), (5, vI z5), (4, vI z3), (3, vI z1), (0, vR 15), (1, vI s), (2, vI c)]) rfl rfl ?_
      refine g_iload (n := 7) rfl rfl ?_
      refine g_if_eq (by decide) (by decide) rfl ?_ ?_
      · intro kk24
        refine g_iconst rfl ?_
        refine g_iret rfl rfl ?_
        exact ⟨_, _, rfl, rfl, (by omega), (by omega)⟩
      · intro kk25
        exfalso; omega
    · intro kk26
      refine g_iload_n (n := 1) rfl rfl ?_
      refine c_sI (ps := [vI s]) (r := []) (as := [vI s]) (cs' := 0) (sl' := 0) rfl rfl rfl rfl rfl rfl (c_keyPlace (d := d - 1) (q := q - (1 + 19)) (by omega) (by omega) hm (s := s) (show (-2147483648) ≤ s ∧ s ≤ 2147483647 by omega)) (by omega) (show 1 + 19 ≤ q by omega) (Nat.le_of_ble_eq_true rfl) (Nat.le_of_ble_eq_true rfl) rfl rfl rfl ?_
      rintro z27 m28 ⟨rfl, p30, p31⟩
      refine g_iload (n := 5) rfl rfl ?_
      refine g_icmp_ne (by omega) (by omega) (by omega) (by omega) rfl ?_ ?_
      · intro kk32
        refine g_iconst rfl ?_
        refine g_istore (n := 7) (lo' := [(6, vI z10), (5, vI z5), (4, vI z3), (3, vI z1), (0, vR 15), (1, vI s), (2, vI c)]) rfl rfl ?_
        refine g_iload (n := 7) rfl rfl ?_
        refine g_if_eq (by decide) (by decide) rfl ?_ ?_
        · intro kk33
          refine g_iconst rfl ?_
          refine g_iret rfl rfl ?_
          exact ⟨_, _, rfl, rfl, (by omega), (by omega)⟩
        · intro kk34
          exfalso; omega
      · intro kk35
        refine g_iconst rfl ?_
        refine g_goto rfl ?_
        refine g_istore (n := 7) (lo' := [(6, vI z10), (5, vI z5), (4, vI z3), (3, vI z1), (0, vR 15), (1, vI s), (2, vI c)]) rfl rfl ?_
        refine g_iload (n := 7) rfl rfl ?_
        refine g_if_eq (by decide) (by decide) rfl ?_ ?_
        · intro kk36
          exfalso; omega
        · intro kk37
          refine g_iload_n (n := 1) rfl rfl ?_
          refine g_bipush (by decide) rfl ?_
          refine g_iload_n (n := 3) rfl rfl ?_
          refine g_iadd rfl ?_
          refine c_sI (ps := [vI (6 + z1), vI s]) (r := []) (as := [vI s, vI (6 + z1)]) (cs' := 0) (sl' := 0) rfl rfl rfl rfl rfl rfl (c_withKeyAt (d := d - 1) (q := q - (2 + 19)) (by omega) (by omega) hm (s := s) (p := (6 + z1)) (show 0 ≤ s ∧ s ≤ 524287 by omega) (show 0 ≤ (6 + z1) ∧ (6 + z1) ≤ 7 by omega)) (by omega) (show 2 + 19 ≤ q by omega) (Nat.le_of_ble_eq_true rfl) (Nat.le_of_ble_eq_true rfl) rfl rfl rfl ?_
          rintro z38 m39 ⟨rfl, p41, p42⟩
          refine g_goto rfl ?_
          refine g_iret rfl rfl ?_
          exact ⟨_, _, rfl, rfl, (by omega), (by omega)⟩
  · refine g_tsw_in (tg := 95) (o9 := 68) (by omega) (by omega) rfl (by omega) (by omega) (by rw [kk15]; rfl) (by decide) ?_
    refine g_iload (n := 6) rfl rfl ?_
    refine g_iconst rfl ?_
    refine g_icmp_ne (by omega) (by omega) (by decide) (by decide) rfl ?_ ?_
    · intro kk43
      refine g_iconst rfl ?_
      refine g_iret rfl rfl ?_
      exact ⟨_, _, rfl, rfl, (by omega), (by omega)⟩
    · intro kk44
      refine g_iload_n (n := 1) rfl rfl ?_
      refine g_iload (n := 5) rfl rfl ?_
      refine c_sI (ps := [vI z5, vI s]) (r := []) (as := [vI s, vI z5]) (cs' := 0) (sl' := 0) rfl rfl rfl rfl rfl rfl (c_withKeyAt (d := d - 1) (q := q - (2 + 19)) (by omega) (by omega) hm (s := s) (p := z5) (show 0 ≤ s ∧ s ≤ 524287 by omega) (show 0 ≤ z5 ∧ z5 ≤ 7 by omega)) (by omega) (show 2 + 19 ≤ q by omega) (Nat.le_of_ble_eq_true rfl) (Nat.le_of_ble_eq_true rfl) rfl rfl rfl ?_
      rintro z45 m46 ⟨rfl, p48, p49⟩
      refine g_goto rfl ?_
      refine g_iret rfl rfl ?_
      exact ⟨_, _, rfl, rfl, (by omega), (by omega)⟩
  · refine g_tsw_in (tg := 112) (o9 := 85) (by omega) (by omega) rfl (by omega) (by omega) (by rw [kk15]; rfl) (by decide) ?_
    refine g_iload (n := 6) rfl rfl ?_
    refine g_if_ne (by omega) (by omega) rfl ?_ ?_
    · intro kk50
      refine g_iconst rfl ?_
      refine g_istore (n := 8) (lo' := [(6, vI z10), (5, vI z5), (4, vI z3), (3, vI z1), (0, vR 15), (1, vI s), (2, vI c)]) rfl rfl ?_
      refine g_iload (n := 8) rfl rfl ?_
      refine g_if_eq (by decide) (by decide) rfl ?_ ?_
      · intro kk51
        refine g_iconst rfl ?_
        refine g_iret rfl rfl ?_
        exact ⟨_, _, rfl, rfl, (by omega), (by omega)⟩
      · intro kk52
        exfalso; omega
    · intro kk53
      refine g_iload (n := 5) rfl rfl ?_
      refine g_aload_n (n := 0) rfl rfl ?_
      refine g_getf (v := vR 3) rfl (kl_15 _) rfl ?_
      have h54 : 0 ≤ m.1 9 ∧ m.1 9 ≤ 5 := hm.1 9
      refine g_getf (v := vI (m.1 9)) rfl (kl_3 _) rfl ?_
      refine g_icmp_ne (by omega) (by omega) (by omega) (by omega) rfl ?_ ?_
      · intro kk55
        refine g_iconst rfl ?_
        refine g_istore (n := 8) (lo' := [(6, vI z10), (5, vI z5), (4, vI z3), (3, vI z1), (0, vR 15), (1, vI s), (2, vI c)]) rfl rfl ?_
        refine g_iload (n := 8) rfl rfl ?_
        refine g_if_eq (by decide) (by decide) rfl ?_ ?_
        · intro kk56
          refine g_iconst rfl ?_
          refine g_iret rfl rfl ?_
          exact ⟨_, _, rfl, rfl, (by omega), (by omega)⟩
        · intro kk57
          exfalso; omega
      · intro kk58
        refine g_iconst rfl ?_
        refine g_goto rfl ?_
        refine g_istore (n := 8) (lo' := [(6, vI z10), (5, vI z5), (4, vI z3), (3, vI z1), (0, vR 15), (1, vI s), (2, vI c)]) rfl rfl ?_
        refine g_iload (n := 8) rfl rfl ?_
        refine g_if_eq (by decide) (by decide) rfl ?_ ?_
        · intro kk59
          exfalso; omega
        · intro kk60
          refine g_iload_n (n := 1) rfl rfl ?_
          refine g_iload_n (n := 3) rfl rfl ?_
          refine c_sI (ps := [vI z1, vI s]) (r := []) (as := [vI s, vI z1]) (cs' := 0) (sl' := 0) rfl rfl rfl rfl rfl rfl (c_withLoaf (d := d - 1) (q := q - (2 + 19)) (by omega) (by omega) hm (s := s) (g := z1) (show 0 ≤ s ∧ s ≤ 524287 by omega) (show 0 ≤ z1 ∧ z1 ≤ 1 by omega)) (by omega) (show 2 + 19 ≤ q by omega) (Nat.le_of_ble_eq_true rfl) (Nat.le_of_ble_eq_true rfl) rfl rfl rfl ?_
          rintro z61 m62 ⟨rfl, p64, p65⟩
          refine g_goto rfl ?_
          refine g_iret rfl rfl ?_
          exact ⟨_, _, rfl, rfl, (by omega), (by omega)⟩
  · refine g_tsw_in (tg := 151) (o9 := 124) (by omega) (by omega) rfl (by omega) (by omega) (by rw [kk15]; rfl) (by decide) ?_
    refine g_iload (n := 6) rfl rfl ?_
    refine g_iconst rfl ?_
    refine g_icmp_ne (by omega) (by omega) (by decide) (by decide) rfl ?_ ?_
    · intro kk66
      refine g_iconst rfl ?_
      refine g_istore (n := 9) (lo' := [(6, vI z10), (5, vI z5), (4, vI z3), (3, vI z1), (0, vR 15), (1, vI s), (2, vI c)]) rfl rfl ?_
      refine g_iload (n := 9) rfl rfl ?_
      refine g_if_eq (by decide) (by decide) rfl ?_ ?_
      · intro kk67
        refine g_iconst rfl ?_
        refine g_iret rfl rfl ?_
        exact ⟨_, _, rfl, rfl, (by omega), (by omega)⟩
      · intro kk68
        exfalso; omega
    · intro kk69
      refine g_iload_n (n := 1) rfl rfl ?_
      refine g_iload (n := 5) rfl rfl ?_
      refine c_sI (ps := [vI z5, vI s]) (r := []) (as := [vI s, vI z5]) (cs' := 0) (sl' := 0) rfl rfl rfl rfl rfl rfl (c_hungryIn (d := d - 1) (q := q - (2 + 19)) (by omega) (by omega) hm (s := s) (r := z5) (show (-2147483648) ≤ s ∧ s ≤ 2147483647 by omega) (show (-2147483648) ≤ z5 ∧ z5 ≤ 2147483647 by omega)) (by omega) (show 2 + 19 ≤ q by omega) (Nat.le_of_ble_eq_true rfl) (Nat.le_of_ble_eq_true rfl) rfl rfl rfl ?_
      rintro z70 m71 ⟨rfl, p73, p74⟩
      refine g_if_eq (by omega) (by omega) rfl ?_ ?_
      · intro kk75
        refine g_iconst rfl ?_
        refine g_istore (n := 9) (lo' := [(6, vI z10), (5, vI z5), (4, vI z3), (3, vI z1), (0, vR 15), (1, vI s), (2, vI c)]) rfl rfl ?_
        refine g_iload (n := 9) rfl rfl ?_
        refine g_if_eq (by decide) (by decide) rfl ?_ ?_
        · intro kk76
          refine g_iconst rfl ?_
          refine g_iret rfl rfl ?_
          exact ⟨_, _, rfl, rfl, (by omega), (by omega)⟩
        · intro kk77
          exfalso; omega
      · intro kk78
        refine g_iconst rfl ?_
        refine g_goto rfl ?_
        refine g_istore (n := 9) (lo' := [(6, vI z10), (5, vI z5), (4, vI z3), (3, vI z1), (0, vR 15), (1, vI s), (2, vI c)]) rfl rfl ?_
        refine g_iload (n := 9) rfl rfl ?_
        refine g_if_eq (by decide) (by decide) rfl ?_ ?_
        · intro kk79
          exfalso; omega
        · intro kk80
          refine g_iload_n (n := 1) rfl rfl ?_
          refine g_iload_n (n := 3) rfl rfl ?_
          refine c_sI (ps := [vI z1, vI s]) (r := []) (as := [vI s, vI z1]) (cs' := 0) (sl' := 0) rfl rfl rfl rfl rfl rfl (c_withoutLoaf (d := d - 1) (q := q - (2 + 19)) (by omega) (by omega) hm (s := s) (g := z1) (show 0 ≤ s ∧ s ≤ 524287 by omega) (show 0 ≤ z1 ∧ z1 ≤ 1 by omega)) (by omega) (show 2 + 19 ≤ q by omega) (Nat.le_of_ble_eq_true rfl) (Nat.le_of_ble_eq_true rfl) rfl rfl rfl ?_
          rintro z81 m82 ⟨rfl, p84, p85⟩
          refine g_iload (n := 5) rfl rfl ?_
          refine c_sI (ps := [vI z5, vI z81]) (r := []) (as := [vI z81, vI z5]) (cs' := 0) (sl' := 0) rfl rfl rfl rfl rfl rfl (c_withFed (d := d - 1) (q := q - (2 + 19)) (by omega) (by omega) hm (s := z81) (r := z5) (show 0 ≤ z81 ∧ z81 ≤ 524287 by omega) (show (-2147483648) ≤ z5 ∧ z5 ≤ 2147483647 by omega)) (by omega) (show 2 + 19 ≤ q by omega) (Nat.le_of_ble_eq_true rfl) (Nat.le_of_ble_eq_true rfl) rfl rfl rfl ?_
          rintro z86 m87 ⟨rfl, p89, p90⟩
          refine g_goto rfl ?_
          refine g_iret rfl rfl ?_
          exact ⟨_, _, rfl, rfl, (by omega), (by omega)⟩
theorem c_isCode {V : cg_V} {d q : Nat} (hd : 0 ≤ d) (hq : 0 ≤ q) {m : kM} (hm : kI m) {c : Int} (h_c : (-2147483648) ≤ c ∧ c ≤ 2147483647) : cg_S V d q mX9_isCode [vI c] (kl m) (R_I (fun z m' => (m = m') ∧ ((z = 1 ∧ 0 ≤ c ∧ c < 100) ∨ (z = 0 ∧ (c < 0 ∨ 100 ≤ c))))) := by
  refine cg_of (List.mem_of_getElem? (show ae_MT[96]? = some mX9_isCode from rfl)) (Nat.le_of_ble_eq_true rfl) ?_
  show cg_G V mX9_isCode d q _ 0 [(0, vI c)] [] (kl m) 0 0
  refine g_iload_n (n := 0) rfl rfl ?_
  refine g_if_lt (by omega) (by omega) rfl ?_ ?_
  · intro kk1
    refine g_iconst rfl ?_
    refine g_zret rfl rfl (by omega) ?_
    exact ⟨_, _, rfl, rfl, (by omega)⟩
  · intro kk2
    refine g_iload_n (n := 0) rfl rfl ?_
    refine g_bipush (by decide) rfl ?_
    refine g_icmp_ge (by omega) (by omega) (by decide) (by decide) rfl ?_ ?_
    · intro kk3
      refine g_iconst rfl ?_
      refine g_zret rfl rfl (by omega) ?_
      exact ⟨_, _, rfl, rfl, (by omega)⟩
    · intro kk4
      refine g_iconst rfl ?_
      refine g_goto rfl ?_
      refine g_zret rfl rfl (by omega) ?_
      exact ⟨_, _, rfl, rfl, (by omega)⟩
theorem c_isNight {V : cg_V} {d q : Nat} (hd : 0 ≤ d) (hq : 0 ≤ q) {m : kM} (hm : kI m) {c : Int} (h_c : (-2147483648) ≤ c ∧ c ≤ 2147483647) : cg_S V d q mX9_isNight [vI c] (kl m) (R_I (fun z m' => (m = m') ∧ ((z = 1 ∧ 1 ≤ c ∧ c ≤ 10) ∨ (z = 0 ∧ (c < 1 ∨ 10 < c))))) := by
  refine cg_of (List.mem_of_getElem? (show ae_MT[111]? = some mX9_isNight from rfl)) (Nat.le_of_ble_eq_true rfl) ?_
  show cg_G V mX9_isNight d q _ 0 [(0, vI c)] [] (kl m) 0 0
  refine g_iload_n (n := 0) rfl rfl ?_
  refine g_iconst rfl ?_
  refine g_icmp_lt (by omega) (by omega) (by decide) (by decide) rfl ?_ ?_
  · intro kk1
    refine g_iconst rfl ?_
    refine g_zret rfl rfl (by omega) ?_
    exact ⟨_, _, rfl, rfl, (by omega)⟩
  · intro kk2
    refine g_iload_n (n := 0) rfl rfl ?_
    refine g_bipush (by decide) rfl ?_
    refine g_icmp_gt (by omega) (by omega) (by decide) (by decide) rfl ?_ ?_
    · intro kk3
      refine g_iconst rfl ?_
      refine g_zret rfl rfl (by omega) ?_
      exact ⟨_, _, rfl, rfl, (by omega)⟩
    · intro kk4
      refine g_iconst rfl ?_
      refine g_goto rfl ?_
      refine g_zret rfl rfl (by omega) ?_
      exact ⟨_, _, rfl, rfl, (by omega)⟩
