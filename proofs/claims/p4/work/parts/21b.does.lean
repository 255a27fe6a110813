/-! ===== contracts: the model, acts ===== -/
theorem d_behind {V : cg_V} {d q : Nat} (hd : 0 ≤ d) (hq : 0 ≤ q) {m : kM} (hm : kI m) {e r : Int} (h_e : 0 ≤ e ∧ e ≤ 9) (h_r : (-2147483648) ≤ r ∧ r ≤ 2147483647) : cg_S V d q mX10_behind [vR 61, vI e, vI r] (kl m) (R_I (fun z m' => (m = m') ∧ (z = beh (m.2.1 66) e r) ∧ (-1 ≤ z) ∧ (z ≤ 5))) := by
  refine cg_of (List.mem_of_getElem? (show ae_MT[146]? = some mX10_behind from rfl)) (Nat.le_of_ble_eq_true rfl) ?_
  show cg_G V mX10_behind d q _ 0 [(0, vR 61), (1, vI e), (2, vI r)] [] (kl m) 0 0
  refine g_aload_n (n := 0) rfl rfl ?_
  refine g_getf (v := vR 66) rfl (kl_61 _) rfl ?_
  refine g_iconst rfl ?_
  refine g_iload_n (n := 1) rfl rfl ?_
  refine g_imul rfl ?_
  have h1 : 0 ≤ m.2.1 66 (4 * e) ∧ m.2.1 66 (4 * e) ≤ 5 := hm.2 66 (4 * e) (by omega) (show (4 * e) < (40 : Int) by omega)
  refine g_iald (f := m.2.1 66) rfl (kl_66 _) (by decide) (by omega) (by omega) ?_
  refine g_iload_n (n := 2) rfl rfl ?_
  refine g_icmp_ne (by omega) (by omega) (by omega) (by omega) rfl ?_ ?_
  · intro k2
    refine g_aload_n (n := 0) rfl rfl ?_
    refine g_getf (v := vR 66) rfl (kl_61 _) rfl ?_
    refine g_iconst rfl ?_
    refine g_iload_n (n := 1) rfl rfl ?_
    refine g_imul rfl ?_
    refine g_iconst rfl ?_
    refine g_iadd rfl ?_
    have h3 : 0 ≤ m.2.1 66 ((4 * e) + 1) ∧ m.2.1 66 ((4 * e) + 1) ≤ 5 := hm.2 66 ((4 * e) + 1) (by omega) (show ((4 * e) + 1) < (40 : Int) by omega)
    refine g_iald (f := m.2.1 66) rfl (kl_66 _) (by decide) (by omega) (by omega) ?_
    refine g_iload_n (n := 2) rfl rfl ?_
    refine g_icmp_ne (by omega) (by omega) (by omega) (by omega) rfl ?_ ?_
    · intro k4
      refine g_iconst rfl ?_
      refine g_iret rfl rfl ?_
      exact ⟨_, _, rfl, rfl, (by unfold beh; repeat (split <;> try omega)), (by omega), (by omega)⟩
    · intro k5
      refine g_aload_n (n := 0) rfl rfl ?_
      refine g_getf (v := vR 66) rfl (kl_61 _) rfl ?_
      refine g_iconst rfl ?_
      refine g_iload_n (n := 1) rfl rfl ?_
      refine g_imul rfl ?_
      have h6 : 0 ≤ m.2.1 66 (4 * e) ∧ m.2.1 66 (4 * e) ≤ 5 := hm.2 66 (4 * e) (by omega) (show (4 * e) < (40 : Int) by omega)
      refine g_iald (f := m.2.1 66) rfl (kl_66 _) (by decide) (by omega) (by omega) ?_
      refine g_goto rfl ?_
      refine g_iret rfl rfl ?_
      exact ⟨_, _, rfl, rfl, (by unfold beh; repeat (split <;> try omega)), (by omega), (by omega)⟩
  · intro k7
    refine g_aload_n (n := 0) rfl rfl ?_
    refine g_getf (v := vR 66) rfl (kl_61 _) rfl ?_
    refine g_iconst rfl ?_
    refine g_iload_n (n := 1) rfl rfl ?_
    refine g_imul rfl ?_
    refine g_iconst rfl ?_
    refine g_iadd rfl ?_
    have h8 : 0 ≤ m.2.1 66 ((4 * e) + 1) ∧ m.2.1 66 ((4 * e) + 1) ≤ 5 := hm.2 66 ((4 * e) + 1) (by omega) (show ((4 * e) + 1) < (40 : Int) by omega)
    refine g_iald (f := m.2.1 66) rfl (kl_66 _) (by decide) (by omega) (by omega) ?_
    refine g_goto rfl ?_
    refine g_iret rfl rfl ?_
    exact ⟨_, _, rfl, rfl, (by unfold beh; repeat (split <;> try omega)), (by omega), (by omega)⟩
theorem d_opens {V : cg_V} {d q : Nat} (hd : 0 ≤ d) (hq : 0 ≤ q) {m : kM} (hm : kI m) {e r v l : Int} (h_e : 0 ≤ e ∧ e ≤ 9) (h_r : (-2147483648) ≤ r ∧ r ≤ 2147483647) (h_v : (-2147483648) ≤ v ∧ v ≤ 2147483647) (h_l : 0 ≤ l ∧ l ≤ 1) : cg_S V d q mX10_opens [vR 61, vI e, vI r, vI v, vI l] (kl m) (R_I (fun z m' => (m = m') ∧ (z = opn (m.2.1 66) e r v l) ∧ (z = 0 ∨ z = 1))) := by
  refine cg_of (List.mem_of_getElem? (show ae_MT[147]? = some mX10_opens from rfl)) (Nat.le_of_ble_eq_true rfl) ?_
  show cg_G V mX10_opens d q _ 0 [(0, vR 61), (1, vI e), (2, vI r), (3, vI v), (4, vI l)] [] (kl m) 0 0
  refine g_aload_n (n := 0) rfl rfl ?_
  refine g_getf (v := vR 66) rfl (kl_61 _) rfl ?_
  refine g_iconst rfl ?_
  refine g_iload_n (n := 1) rfl rfl ?_
  refine g_imul rfl ?_
  refine g_iconst rfl ?_
  refine g_iadd rfl ?_
  have h1 : 0 ≤ m.2.1 66 ((4 * e) + 2) ∧ m.2.1 66 ((4 * e) + 2) ≤ 5 := hm.2 66 ((4 * e) + 2) (by omega) (show ((4 * e) + 2) < (40 : Int) by omega)
  refine g_iald (f := m.2.1 66) rfl (kl_66 _) (by decide) (by omega) (by omega) ?_
  have k2 : m.2.1 66 ((4 * e) + 2) < 1 ∨ m.2.1 66 ((4 * e) + 2) = 1 ∨ m.2.1 66 ((4 * e) + 2) = 2 ∨ m.2.1 66 ((4 * e) + 2) = 3 ∨ m.2.1 66 ((4 * e) + 2) = 4 ∨ m.2.1 66 ((4 * e) + 2) = 5 := by omega
  rcases k2 with k2 | k2 | k2 | k2 | k2 | k2
  · refine g_tsw_out (tg := 99) (by omega) (by omega) rfl (by omega) (by decide) ?_
    refine g_iconst rfl ?_
    refine g_zret rfl rfl (by omega) ?_
    exact ⟨_, _, rfl, rfl, (by unfold opn; repeat (split <;> try omega)), (by omega)⟩
  · refine g_tsw_in (tg := 46) (o9 := 36) (by omega) (by omega) rfl (by omega) (by omega) (by rw [k2]; rfl) (by decide) ?_
    refine g_aload_n (n := 0) rfl rfl ?_
    refine g_getf (v := vR 66) rfl (kl_61 _) rfl ?_
    refine g_iconst rfl ?_
    refine g_iload_n (n := 1) rfl rfl ?_
    refine g_imul rfl ?_
    have h3 : 0 ≤ m.2.1 66 (4 * e) ∧ m.2.1 66 (4 * e) ≤ 5 := hm.2 66 (4 * e) (by omega) (show (4 * e) < (40 : Int) by omega)
    refine g_iald (f := m.2.1 66) rfl (kl_66 _) (by decide) (by omega) (by omega) ?_
    refine g_iload_n (n := 2) rfl rfl ?_
    refine g_icmp_ne (by omega) (by omega) (by omega) (by omega) rfl ?_ ?_
    · intro k4
      refine g_iconst rfl ?_
      refine g_zret rfl rfl (by omega) ?_
      exact ⟨_, _, rfl, rfl, (by unfold opn; repeat (split <;> try omega)), (by omega)⟩
    · intro k5
      refine g_iconst rfl ?_
      refine g_goto rfl ?_
      refine g_zret rfl rfl (by omega) ?_
      exact ⟨_, _, rfl, rfl, (by unfold opn; repeat (split <;> try omega)), (by omega)⟩
  · refine g_tsw_in (tg := 64) (o9 := 54) (by omega) (by omega) rfl (by omega) (by omega) (by rw [k2]; rfl) (by decide) ?_
    refine g_iload_n (n := 3) rfl rfl ?_
    refine g_bipush (by decide) rfl ?_
    refine g_icmp_ne (by omega) (by omega) (by decide) (by decide) rfl ?_ ?_
    · intro k6
      refine g_iconst rfl ?_
      refine g_zret rfl rfl (by omega) ?_
      exact ⟨_, _, rfl, rfl, (by unfold opn; repeat (split <;> try omega)), (by omega)⟩
    · intro k7
      refine g_iconst rfl ?_
      refine g_goto rfl ?_
      refine g_zret rfl rfl (by omega) ?_
      exact ⟨_, _, rfl, rfl, (by unfold opn; repeat (split <;> try omega)), (by omega)⟩
  · refine g_tsw_in (tg := 76) (o9 := 66) (by omega) (by omega) rfl (by omega) (by omega) (by rw [k2]; rfl) (by decide) ?_
    refine g_iload (n := 4) rfl rfl ?_
    refine g_if_ne (by omega) (by omega) rfl ?_ ?_
    · intro k8
      refine g_iconst rfl ?_
      refine g_zret rfl rfl (by omega) ?_
      exact ⟨_, _, rfl, rfl, (by unfold opn; repeat (split <;> try omega)), (by omega)⟩
    · intro k9
      refine g_iconst rfl ?_
      refine g_goto rfl ?_
      refine g_zret rfl rfl (by omega) ?_
      exact ⟨_, _, rfl, rfl, (by unfold opn; repeat (split <;> try omega)), (by omega)⟩
  · refine g_tsw_in (tg := 87) (o9 := 77) (by omega) (by omega) rfl (by omega) (by omega) (by rw [k2]; rfl) (by decide) ?_
    refine g_iload_n (n := 3) rfl rfl ?_
    refine g_bipush (by decide) rfl ?_
    refine g_icmp_ne (by omega) (by omega) (by decide) (by decide) rfl ?_ ?_
    · intro k10
      refine g_iconst rfl ?_
      refine g_zret rfl rfl (by omega) ?_
      exact ⟨_, _, rfl, rfl, (by unfold opn; repeat (split <;> try omega)), (by omega)⟩
    · intro k11
      refine g_iconst rfl ?_
      refine g_goto rfl ?_
      refine g_zret rfl rfl (by omega) ?_
      exact ⟨_, _, rfl, rfl, (by unfold opn; repeat (split <;> try omega)), (by omega)⟩
  · refine g_tsw_in (tg := 44) (o9 := 34) (by omega) (by omega) rfl (by omega) (by omega) (by rw [k2]; rfl) (by decide) ?_
    refine g_iconst rfl ?_
    refine g_zret rfl rfl (by omega) ?_
    exact ⟨_, _, rfl, rfl, (by unfold opn; repeat (split <;> try omega)), (by omega)⟩
theorem d_stays_0_0 {V : cg_V} {d q : Nat} (hd : 1 ≤ d) (hq : 21 ≤ q) {m : kM} (hm : kI m) {a : Int} (h_a : (-1) ≤ a ∧ a ≤ 3) (hw : kw (kr0 (m.2.1 62))) : cg_S V d q mX10_stays [vR 61, vI 0, vI 0, vI a] (kl m) (R_I (fun z m' => (kI m') ∧ (fr [] [62] m m') ∧ ((z = 1 ∧ stay_0 (m.1 27) (kr0 (m.2.1 62)) a = some (kr0 (m'.2.1 62))) ∨ (z = 0 ∧ stay_0 (m.1 27) (kr0 (m.2.1 62)) a = none ∧ (kr0 (m'.2.1 62)) = (kr0 (m.2.1 62)))) ∧ (∀ j : Int, (j < 0 ∨ 7 ≤ j) → m'.2.1 62 j = m.2.1 62 j))) := by
  have hf0 : fr [] [62] m m := fr_rf m
  refine cg_of (List.mem_of_getElem? (show ae_MT[150]? = some mX10_stays from rfl)) (Nat.le_of_ble_eq_true rfl) ?_
  show cg_G V mX10_stays d q _ 0 [(0, vR 61), (1, vI 0), (2, vI 0), (3, vI a)] [] (kl m) 0 0
  have h1 : 0 ≤ m.1 27 ∧ m.1 27 ≤ 5 := hm.1 27
  have w0 : 0 ≤ m.2.1 62 0 ∧ m.2.1 62 0 ≤ 5 := hw.1
  have w1 : 0 ≤ m.2.1 62 1 ∧ m.2.1 62 1 ≤ 5 := hw.2.1
  have w2 : 0 ≤ m.2.1 62 2 ∧ m.2.1 62 2 ≤ 2 := hw.2.2.1
  have w3 : 0 ≤ m.2.1 62 3 ∧ m.2.1 62 3 ≤ 2 := hw.2.2.2.1
  have w4 : (-1) ≤ m.2.1 62 4 ∧ m.2.1 62 4 ≤ 5 := hw.2.2.2.2.1
  have w5 : 0 ≤ m.2.1 62 5 ∧ m.2.1 62 5 ≤ 63 := hw.2.2.2.2.2.1
  have w6 : 0 ≤ m.2.1 62 6 ∧ m.2.1 62 6 ≤ 3 := hw.2.2.2.2.2.2.1
  have w7 : 0 ≤ m.2.1 62 4 ∨ m.2.1 62 2 = 2 ∨ m.2.1 62 3 = 2 := hw.2.2.2.2.2.2.2
  have h2 : a = (-1) ∨ a = 0 ∨ a = 1 ∨ a = 2 ∨ a = 3 := by omega
  rcases h2 with rfl | rfl | rfl | rfl | rfl
  · refine g_aload_n (n := 0) rfl rfl ?_
    refine g_getf (v := vR 62) rfl (kl_61 _) rfl ?_
    refine g_iload_n (n := 1) rfl rfl ?_
    refine g_iconst rfl ?_
    refine g_iaddE (z := 0) (by decide) rfl ?_
    refine g_iload_n (n := 2) rfl rfl ?_
    refine g_iaddE (z := 0) (by decide) rfl ?_
    refine g_ialE (f := m.2.1 62) (v := m.2.1 62 0) rfl (kl_62 _) (by decide) (by decide) (by decide) rfl ?_
    refine g_istore (n := 4) (lo' := [(0, vR 61), (1, vI 0), (2, vI 0), (3, vI (-1))]) rfl rfl ?_
    refine g_aload_n (n := 0) rfl rfl ?_
    refine g_getf (v := vR 62) rfl (kl_61 _) rfl ?_
    refine g_iload_n (n := 1) rfl rfl ?_
    refine g_iconst rfl ?_
    refine g_iaddE (z := 2) (by decide) rfl ?_
    refine g_iload_n (n := 2) rfl rfl ?_
    refine g_iaddE (z := 2) (by decide) rfl ?_
    refine g_ialE (f := m.2.1 62) (v := m.2.1 62 2) rfl (kl_62 _) (by decide) (by decide) (by decide) rfl ?_
    refine g_istore (n := 5) (lo' := [(4, vI (m.2.1 62 0)), (0, vR 61), (1, vI 0), (2, vI 0), (3, vI (-1))]) rfl rfl ?_
    refine g_iload_n (n := 3) rfl rfl ?_
    refine g_if_ne (by decide) (by decide) rfl ?_ ?_
    · intro k3
      refine g_iload_n (n := 3) rfl rfl ?_
      refine g_iconst rfl ?_
      refine g_icmp_ne (by decide) (by decide) (by decide) (by decide) rfl ?_ ?_
      · intro k4
        refine g_iload_n (n := 3) rfl rfl ?_
        refine g_iconst rfl ?_
        refine g_icmp_ne (by decide) (by decide) (by decide) (by decide) rfl ?_ ?_
        · intro k5
          refine g_iload (n := 5) rfl rfl ?_
          refine g_iconst rfl ?_
          refine g_icmp_ne (by omega) (by omega) (by decide) (by decide) rfl ?_ ?_
          · intro k6
            refine g_iconst rfl ?_
            refine g_istore (n := 6) (lo' := [(5, vI (m.2.1 62 2)), (4, vI (m.2.1 62 0)), (0, vR 61), (1, vI 0), (2, vI 0), (3, vI (-1))]) rfl rfl ?_
            refine g_iload (n := 6) rfl rfl ?_
            refine g_if_eq (by decide) (by decide) rfl ?_ ?_
            · intro k7
              refine g_iload (n := 6) rfl rfl ?_
              refine g_zret rfl rfl (by omega) ?_
              refine ⟨_, _, rfl, hm, hf0, Or.inr ⟨rfl, ?_, rfl⟩, fun j hj => rfl⟩
              show stay_0 (m.1 27) (m.2.1 62 0, m.2.1 62 1, m.2.1 62 2, m.2.1 62 3, m.2.1 62 4, m.2.1 62 5, m.2.1 62 6) (-1) = none
              dsimp only [stay_0]
              repeat (split <;> try (exfalso; omega))
              all_goals first | rfl | omega
            · intro k8
              exfalso; omega
          · intro k9
            refine g_aload_n (n := 0) rfl rfl ?_
            refine g_getf (v := vR 62) rfl (kl_61 _) rfl ?_
            refine g_iload_n (n := 1) rfl rfl ?_
            refine g_iconst rfl ?_
            refine g_iaddE (z := 5) (by decide) rfl ?_
            refine g_ialE (f := m.2.1 62) (v := m.2.1 62 5) rfl (kl_62 _) (by decide) (by decide) (by decide) rfl ?_
            refine g_iload (n := 4) rfl rfl ?_
            refine c_sI (ps := [vI (m.2.1 62 0), vI (m.2.1 62 5)]) (r := []) (as := [vI (m.2.1 62 5), vI (m.2.1 62 0)]) (cs' := 0) (sl' := 0) rfl rfl rfl rfl rfl rfl (d_has (d := d - 1) (q := q - (2 + 19)) (by omega) (by omega) hm (s := m.2.1 62 5) (k := m.2.1 62 0) (show (-2147483648) ≤ m.2.1 62 5 ∧ m.2.1 62 5 ≤ 2147483647 by omega) (show 0 ≤ m.2.1 62 0 ∧ m.2.1 62 0 ≤ 5 by omega)) (by omega) (show 2 + 19 ≤ q by omega) (Nat.le_of_ble_eq_true rfl) (Nat.le_of_ble_eq_true rfl) rfl rfl rfl ?_
            rintro z10 m11 ⟨rfl, p13, p14, p15⟩
            subst p13
            refine g_if_eq (by omega) (by omega) rfl ?_ ?_
            · intro k16
              refine g_iconst rfl ?_
              refine g_istore (n := 6) (lo' := [(5, vI (m.2.1 62 2)), (4, vI (m.2.1 62 0)), (0, vR 61), (1, vI 0), (2, vI 0), (3, vI (-1))]) rfl rfl ?_
              refine g_iload (n := 6) rfl rfl ?_
              refine g_if_eq (by decide) (by decide) rfl ?_ ?_
              · intro k17
                refine g_iload (n := 6) rfl rfl ?_
                refine g_zret rfl rfl (by omega) ?_
                refine ⟨_, _, rfl, hm, hf0, Or.inr ⟨rfl, ?_, rfl⟩, fun j hj => rfl⟩
                show stay_0 (m.1 27) (m.2.1 62 0, m.2.1 62 1, m.2.1 62 2, m.2.1 62 3, m.2.1 62 4, m.2.1 62 5, m.2.1 62 6) (-1) = none
                dsimp only [stay_0]
                repeat (split <;> try (exfalso; omega))
                all_goals first | rfl | omega
              · intro k18
                exfalso; omega
            · intro k19
              refine g_iconst rfl ?_
              refine g_goto rfl ?_
              refine g_istore (n := 6) (lo' := [(5, vI (m.2.1 62 2)), (4, vI (m.2.1 62 0)), (0, vR 61), (1, vI 0), (2, vI 0), (3, vI (-1))]) rfl rfl ?_
              refine g_iload (n := 6) rfl rfl ?_
              refine g_if_eq (by decide) (by decide) rfl ?_ ?_
              · intro k20
                exfalso; omega
              · intro k21
                refine g_aload_n (n := 0) rfl rfl ?_
                refine g_getf (v := vR 62) rfl (kl_61 _) rfl ?_
                refine g_iload_n (n := 1) rfl rfl ?_
                refine g_iconst rfl ?_
                refine g_iaddE (z := 4) (by decide) rfl ?_
                refine g_iload_n (n := 3) rfl rfl ?_
                refine g_if_ne (by decide) (by decide) rfl ?_ ?_
                · intro k22
                  refine g_iload_n (n := 3) rfl rfl ?_
                  refine g_iconst rfl ?_
                  refine g_icmp_ne (by decide) (by decide) (by decide) (by decide) rfl ?_ ?_
                  · intro k23
                    refine g_aload_n (n := 0) rfl rfl ?_
                    refine g_getf (v := vR 62) rfl (kl_61 _) rfl ?_
                    refine g_iload_n (n := 1) rfl rfl ?_
                    refine g_iconst rfl ?_
                    refine g_iaddE (z := 4) (by decide) rfl ?_
                    refine g_ialE (f := m.2.1 62) (v := m.2.1 62 4) rfl (kl_62 _) (by decide) (by decide) (by decide) rfl ?_
                    refine g_iAst (f := m.2.1 62) (m' := (kA m 62 (up (m.2.1 62) 4 (m.2.1 62 4)))) rfl (kl_62 _) (by decide) (by omega) (by omega) (kA_62 _ _) ?_
                    have hm24 : kI (kA m 62 (up (m.2.1 62) 4 (m.2.1 62 4))) := kI_U hm 62 rfl (show ((-2147483648) : Int) ≤ m.2.1 62 4 by omega) (show m.2.1 62 4 ≤ (2147483647 : Int) by omega)
                    have hf25 : fr [] [62] m (kA m 62 (up (m.2.1 62) 4 (m.2.1 62 4))) := fr_A hf0 62 _ rfl
                    refine g_aload_n (n := 0) rfl rfl ?_
                    refine g_getf (v := vR 62) rfl (kl_61 _) rfl ?_
                    refine g_iload_n (n := 1) rfl rfl ?_
                    refine g_iconst rfl ?_
                    refine g_iaddE (z := 5) (by decide) rfl ?_
                    refine g_dup2 rfl rfl rfl ?_
                    refine g_ialE (f := up (m.2.1 62) 4 (m.2.1 62 4)) (v := m.2.1 62 5) rfl (kl_62 _) (by decide) (by decide) (by decide) rfl ?_
                    refine g_iload_n (n := 3) rfl rfl ?_
                    refine g_iconst rfl ?_
                    refine g_icmp_ne (by decide) (by decide) (by decide) (by decide) rfl ?_ ?_
                    · intro k26
                      refine g_iconst rfl ?_
                      refine g_iand rfl ?_
                      intro z27 h28 h29 h30
                      have h31 : z27 = m.2.1 62 5 := b_andm1 h28 (by omega) (by omega)
                      refine g_iAst (f := up (m.2.1 62) 4 (m.2.1 62 4)) (m' := (kA (kA m 62 (up (m.2.1 62) 4 (m.2.1 62 4))) 62 (up (up (m.2.1 62) 4 (m.2.1 62 4)) 5 z27))) rfl (kl_62 _) (by decide) (by omega) (by omega) (kA_62 _ _) ?_
                      have hm32 : kI (kA (kA m 62 (up (m.2.1 62) 4 (m.2.1 62 4))) 62 (up (up (m.2.1 62) 4 (m.2.1 62 4)) 5 z27)) := kI_U hm24 62 rfl (show ((-2147483648) : Int) ≤ z27 by omega) (show z27 ≤ (2147483647 : Int) by omega)
                      have hf33 : fr [] [62] m (kA (kA m 62 (up (m.2.1 62) 4 (m.2.1 62 4))) 62 (up (up (m.2.1 62) 4 (m.2.1 62 4)) 5 z27)) := fr_A hf25 62 _ rfl
                      refine g_aload_n (n := 0) rfl rfl ?_
                      refine g_getf (v := vR 62) rfl (kl_61 _) rfl ?_
                      refine g_iload_n (n := 1) rfl rfl ?_
                      refine g_iconst rfl ?_
                      refine g_iaddE (z := 2) (by decide) rfl ?_
                      refine g_iload_n (n := 2) rfl rfl ?_
                      refine g_iaddE (z := 2) (by decide) rfl ?_
                      refine g_iload_n (n := 3) rfl rfl ?_
                      refine g_if_ne (by decide) (by decide) rfl ?_ ?_
                      · intro k34
                        refine g_iload_n (n := 3) rfl rfl ?_
                        refine g_iconst rfl ?_
                        refine g_icmp_ne (by decide) (by decide) (by decide) (by decide) rfl ?_ ?_
                        · intro k35
                          refine g_iconst rfl ?_
                          refine g_iAst (f := up (up (m.2.1 62) 4 (m.2.1 62 4)) 5 z27) (m' := (kA (kA (kA m 62 (up (m.2.1 62) 4 (m.2.1 62 4))) 62 (up (up (m.2.1 62) 4 (m.2.1 62 4)) 5 z27)) 62 (up (up (up (m.2.1 62) 4 (m.2.1 62 4)) 5 z27) 2 0))) rfl (kl_62 _) (by decide) (by omega) (by omega) (kA_62 _ _) ?_
                          have hm36 : kI (kA (kA (kA m 62 (up (m.2.1 62) 4 (m.2.1 62 4))) 62 (up (up (m.2.1 62) 4 (m.2.1 62 4)) 5 z27)) 62 (up (up (up (m.2.1 62) 4 (m.2.1 62 4)) 5 z27) 2 0)) := kI_U hm32 62 rfl (show ((-2147483648) : Int) ≤ 0 by omega) (show 0 ≤ (2147483647 : Int) by omega)
                          have hf37 : fr [] [62] m (kA (kA (kA m 62 (up (m.2.1 62) 4 (m.2.1 62 4))) 62 (up (up (m.2.1 62) 4 (m.2.1 62 4)) 5 z27)) 62 (up (up (up (m.2.1 62) 4 (m.2.1 62 4)) 5 z27) 2 0)) := fr_A hf33 62 _ rfl
                          refine g_iload (n := 6) rfl rfl ?_
                          refine g_zret rfl rfl (by omega) ?_
                          refine ⟨_, _, rfl, hm36, hf37, Or.inl ⟨rfl, ?_⟩, (fun j hj => by show (up (up (up (m.2.1 62) 4 (m.2.1 62 4)) 5 z27) 2 0) j = m.2.1 62 j; rw [up_ne _ (by omega), up_ne _ (by omega), up_ne _ (by omega)])⟩
                          show stay_0 (m.1 27) (m.2.1 62 0, m.2.1 62 1, m.2.1 62 2, m.2.1 62 3, m.2.1 62 4, m.2.1 62 5, m.2.1 62 6) (-1) = some (m.2.1 62 0, m.2.1 62 1, 0, m.2.1 62 3, m.2.1 62 4, z27, m.2.1 62 6)
                          simp only [h31]
                          dsimp only [stay_0]
                          repeat (split <;> try (exfalso; omega))
                          all_goals first | rfl | omega
                        · intro k38
                          exfalso; omega
                      · intro k39
                        exfalso; omega
                    · intro k40
                      exfalso; omega
                  · intro k41
                    exfalso; omega
                · intro k42
                  exfalso; omega
        · intro k43
          exfalso; omega
      · intro k44
        exfalso; omega
    · intro k45
      exfalso; omega
  · refine g_aload_n (n := 0) rfl rfl ?_
    refine g_getf (v := vR 62) rfl (kl_61 _) rfl ?_
    refine g_iload_n (n := 1) rfl rfl ?_
    refine g_iconst rfl ?_
    refine g_iaddE (z := 0) (by decide) rfl ?_
    refine g_iload_n (n := 2) rfl rfl ?_
    refine g_iaddE (z := 0) (by decide) rfl ?_
    refine g_ialE (f := m.2.1 62) (v := m.2.1 62 0) rfl (kl_62 _) (by decide) (by decide) (by decide) rfl ?_
    refine g_istore (n := 4) (lo' := [(0, vR 61), (1, vI 0), (2, vI 0), (3, vI 0)]) rfl rfl ?_
    refine g_aload_n (n := 0) rfl rfl ?_
    refine g_getf (v := vR 62) rfl (kl_61 _) rfl ?_
    refine g_iload_n (n := 1) rfl rfl ?_
    refine g_iconst rfl ?_
    refine g_iaddE (z := 2) (by decide) rfl ?_
    refine g_iload_n (n := 2) rfl rfl ?_
    refine g_iaddE (z := 2) (by decide) rfl ?_
    refine g_ialE (f := m.2.1 62) (v := m.2.1 62 2) rfl (kl_62 _) (by decide) (by decide) (by decide) rfl ?_
    refine g_istore (n := 5) (lo' := [(4, vI (m.2.1 62 0)), (0, vR 61), (1, vI 0), (2, vI 0), (3, vI 0)]) rfl rfl ?_
    refine g_iload_n (n := 3) rfl rfl ?_
    refine g_if_ne (by decide) (by decide) rfl ?_ ?_
    · intro k46
      exfalso; omega
    · intro k47
      refine g_iload (n := 5) rfl rfl ?_
      refine g_if_ne (by omega) (by omega) rfl ?_ ?_
      · intro k48
        refine g_iconst rfl ?_
        refine g_goto rfl ?_
        refine g_istore (n := 6) (lo' := [(5, vI (m.2.1 62 2)), (4, vI (m.2.1 62 0)), (0, vR 61), (1, vI 0), (2, vI 0), (3, vI 0)]) rfl rfl ?_
        refine g_iload (n := 6) rfl rfl ?_
        refine g_if_eq (by decide) (by decide) rfl ?_ ?_
        · intro k49
          refine g_iload (n := 6) rfl rfl ?_
          refine g_zret rfl rfl (by omega) ?_
          refine ⟨_, _, rfl, hm, hf0, Or.inr ⟨rfl, ?_, rfl⟩, fun j hj => rfl⟩
          show stay_0 (m.1 27) (m.2.1 62 0, m.2.1 62 1, m.2.1 62 2, m.2.1 62 3, m.2.1 62 4, m.2.1 62 5, m.2.1 62 6) 0 = none
          dsimp only [stay_0]
          repeat (split <;> try (exfalso; omega))
          all_goals first | rfl | omega
        · intro k50
          exfalso; omega
      · intro k51
        refine g_aload_n (n := 0) rfl rfl ?_
        refine g_getf (v := vR 62) rfl (kl_61 _) rfl ?_
        refine g_iload_n (n := 1) rfl rfl ?_
        refine g_iconst rfl ?_
        refine g_iaddE (z := 4) (by decide) rfl ?_
        refine g_ialE (f := m.2.1 62) (v := m.2.1 62 4) rfl (kl_62 _) (by decide) (by decide) (by decide) rfl ?_
        refine g_iload (n := 4) rfl rfl ?_
        refine g_icmp_ne (by omega) (by omega) (by omega) (by omega) rfl ?_ ?_
        · intro k52
          refine g_iconst rfl ?_
          refine g_goto rfl ?_
          refine g_istore (n := 6) (lo' := [(5, vI (m.2.1 62 2)), (4, vI (m.2.1 62 0)), (0, vR 61), (1, vI 0), (2, vI 0), (3, vI 0)]) rfl rfl ?_
          refine g_iload (n := 6) rfl rfl ?_
          refine g_if_eq (by decide) (by decide) rfl ?_ ?_
          · intro k53
            refine g_iload (n := 6) rfl rfl ?_
            refine g_zret rfl rfl (by omega) ?_
            refine ⟨_, _, rfl, hm, hf0, Or.inr ⟨rfl, ?_, rfl⟩, fun j hj => rfl⟩
            show stay_0 (m.1 27) (m.2.1 62 0, m.2.1 62 1, m.2.1 62 2, m.2.1 62 3, m.2.1 62 4, m.2.1 62 5, m.2.1 62 6) 0 = none
            dsimp only [stay_0]
            repeat (split <;> try (exfalso; omega))
            all_goals first | rfl | omega
          · intro k54
            exfalso; omega
        · intro k55
          refine g_iconst rfl ?_
          refine g_goto rfl ?_
          refine g_istore (n := 6) (lo' := [(5, vI (m.2.1 62 2)), (4, vI (m.2.1 62 0)), (0, vR 61), (1, vI 0), (2, vI 0), (3, vI 0)]) rfl rfl ?_
          refine g_iload (n := 6) rfl rfl ?_
          refine g_if_eq (by decide) (by decide) rfl ?_ ?_
          · intro k56
            exfalso; omega
          · intro k57
            refine g_aload_n (n := 0) rfl rfl ?_
            refine g_getf (v := vR 62) rfl (kl_61 _) rfl ?_
            refine g_iload_n (n := 1) rfl rfl ?_
            refine g_iconst rfl ?_
            refine g_iaddE (z := 4) (by decide) rfl ?_
            refine g_iload_n (n := 3) rfl rfl ?_
            refine g_if_ne (by decide) (by decide) rfl ?_ ?_
            · intro k58
              exfalso; omega
            · intro k59
              refine g_iconst rfl ?_
              refine g_goto rfl ?_
              refine g_iAst (f := m.2.1 62) (m' := (kA m 62 (up (m.2.1 62) 4 (-1)))) rfl (kl_62 _) (by decide) (by omega) (by omega) (kA_62 _ _) ?_
              have hm60 : kI (kA m 62 (up (m.2.1 62) 4 (-1))) := kI_U hm 62 rfl (show ((-2147483648) : Int) ≤ (-1) by omega) (show (-1) ≤ (2147483647 : Int) by omega)
              have hf61 : fr [] [62] m (kA m 62 (up (m.2.1 62) 4 (-1))) := fr_A hf0 62 _ rfl
              refine g_aload_n (n := 0) rfl rfl ?_
              refine g_getf (v := vR 62) rfl (kl_61 _) rfl ?_
              refine g_iload_n (n := 1) rfl rfl ?_
              refine g_iconst rfl ?_
              refine g_iaddE (z := 5) (by decide) rfl ?_
              refine g_dup2 rfl rfl rfl ?_
              refine g_ialE (f := up (m.2.1 62) 4 (-1)) (v := m.2.1 62 5) rfl (kl_62 _) (by decide) (by decide) (by decide) rfl ?_
              refine g_iload_n (n := 3) rfl rfl ?_
              refine g_iconst rfl ?_
              refine g_icmp_ne (by decide) (by decide) (by decide) (by decide) rfl ?_ ?_
              · intro k62
                refine g_iconst rfl ?_
                refine g_iand rfl ?_
                intro z63 h64 h65 h66
                have h67 : z63 = m.2.1 62 5 := b_andm1 h64 (by omega) (by omega)
                refine g_iAst (f := up (m.2.1 62) 4 (-1)) (m' := (kA (kA m 62 (up (m.2.1 62) 4 (-1))) 62 (up (up (m.2.1 62) 4 (-1)) 5 z63))) rfl (kl_62 _) (by decide) (by omega) (by omega) (kA_62 _ _) ?_
                have hm68 : kI (kA (kA m 62 (up (m.2.1 62) 4 (-1))) 62 (up (up (m.2.1 62) 4 (-1)) 5 z63)) := kI_U hm60 62 rfl (show ((-2147483648) : Int) ≤ z63 by omega) (show z63 ≤ (2147483647 : Int) by omega)
                have hf69 : fr [] [62] m (kA (kA m 62 (up (m.2.1 62) 4 (-1))) 62 (up (up (m.2.1 62) 4 (-1)) 5 z63)) := fr_A hf61 62 _ rfl
                refine g_aload_n (n := 0) rfl rfl ?_
                refine g_getf (v := vR 62) rfl (kl_61 _) rfl ?_
                refine g_iload_n (n := 1) rfl rfl ?_
                refine g_iconst rfl ?_
                refine g_iaddE (z := 2) (by decide) rfl ?_
                refine g_iload_n (n := 2) rfl rfl ?_
                refine g_iaddE (z := 2) (by decide) rfl ?_
                refine g_iload_n (n := 3) rfl rfl ?_
                refine g_if_ne (by decide) (by decide) rfl ?_ ?_
                · intro k70
                  exfalso; omega
                · intro k71
                  refine g_iconst rfl ?_
                  refine g_goto rfl ?_
                  refine g_iAst (f := up (up (m.2.1 62) 4 (-1)) 5 z63) (m' := (kA (kA (kA m 62 (up (m.2.1 62) 4 (-1))) 62 (up (up (m.2.1 62) 4 (-1)) 5 z63)) 62 (up (up (up (m.2.1 62) 4 (-1)) 5 z63) 2 2))) rfl (kl_62 _) (by decide) (by omega) (by omega) (kA_62 _ _) ?_
                  have hm72 : kI (kA (kA (kA m 62 (up (m.2.1 62) 4 (-1))) 62 (up (up (m.2.1 62) 4 (-1)) 5 z63)) 62 (up (up (up (m.2.1 62) 4 (-1)) 5 z63) 2 2)) := kI_U hm68 62 rfl (show ((-2147483648) : Int) ≤ 2 by omega) (show 2 ≤ (2147483647 : Int) by omega)
                  have hf73 : fr [] [62] m (kA (kA (kA m 62 (up (m.2.1 62) 4 (-1))) 62 (up (up (m.2.1 62) 4 (-1)) 5 z63)) 62 (up (up (up (m.2.1 62) 4 (-1)) 5 z63) 2 2)) := fr_A hf69 62 _ rfl
                  refine g_iload (n := 6) rfl rfl ?_
                  refine g_zret rfl rfl (by omega) ?_
                  refine ⟨_, _, rfl, hm72, hf73, Or.inl ⟨rfl, ?_⟩, (fun j hj => by show (up (up (up (m.2.1 62) 4 (-1)) 5 z63) 2 2) j = m.2.1 62 j; rw [up_ne _ (by omega), up_ne _ (by omega), up_ne _ (by omega)])⟩
                  show stay_0 (m.1 27) (m.2.1 62 0, m.2.1 62 1, m.2.1 62 2, m.2.1 62 3, m.2.1 62 4, m.2.1 62 5, m.2.1 62 6) 0 = some (m.2.1 62 0, m.2.1 62 1, 2, m.2.1 62 3, (-1), z63, m.2.1 62 6)
                  simp only [h67]
                  dsimp only [stay_0]
                  repeat (split <;> try (exfalso; omega))
                  all_goals first | rfl | omega
              · intro k74
                exfalso; omega
  · refine g_aload_n (n := 0) rfl rfl ?_
    refine g_getf (v := vR 62) rfl (kl_61 _) rfl ?_
    refine g_iload_n (n := 1) rfl rfl ?_
    refine g_iconst rfl ?_
    refine g_iaddE (z := 0) (by decide) rfl ?_
    refine g_iload_n (n := 2) rfl rfl ?_
    refine g_iaddE (z := 0) (by decide) rfl ?_
    refine g_ialE (f := m.2.1 62) (v := m.2.1 62 0) rfl (kl_62 _) (by decide) (by decide) (by decide) rfl ?_
    refine g_istore (n := 4) (lo' := [(0, vR 61), (1, vI 0), (2, vI 0), (3, vI 1)]) rfl rfl ?_
    refine g_aload_n (n := 0) rfl rfl ?_
    refine g_getf (v := vR 62) rfl (kl_61 _) rfl ?_
    refine g_iload_n (n := 1) rfl rfl ?_
    refine g_iconst rfl ?_
    refine g_iaddE (z := 2) (by decide) rfl ?_
    refine g_iload_n (n := 2) rfl rfl ?_
    refine g_iaddE (z := 2) (by decide) rfl ?_
    refine g_ialE (f := m.2.1 62) (v := m.2.1 62 2) rfl (kl_62 _) (by decide) (by decide) (by decide) rfl ?_
    refine g_istore (n := 5) (lo' := [(4, vI (m.2.1 62 0)), (0, vR 61), (1, vI 0), (2, vI 0), (3, vI 1)]) rfl rfl ?_
    refine g_iload_n (n := 3) rfl rfl ?_
    refine g_if_ne (by decide) (by decide) rfl ?_ ?_
    · intro k75
      refine g_iload_n (n := 3) rfl rfl ?_
      refine g_iconst rfl ?_
      refine g_icmp_ne (by decide) (by decide) (by decide) (by decide) rfl ?_ ?_
      · intro k76
        exfalso; omega
      · intro k77
        refine g_iload (n := 5) rfl rfl ?_
        refine g_iconst rfl ?_
        refine g_icmp_ne (by omega) (by omega) (by decide) (by decide) rfl ?_ ?_
        · intro k78
          refine g_iconst rfl ?_
          refine g_goto rfl ?_
          refine g_istore (n := 6) (lo' := [(5, vI (m.2.1 62 2)), (4, vI (m.2.1 62 0)), (0, vR 61), (1, vI 0), (2, vI 0), (3, vI 1)]) rfl rfl ?_
          refine g_iload (n := 6) rfl rfl ?_
          refine g_if_eq (by decide) (by decide) rfl ?_ ?_
          · intro k79
            refine g_iload (n := 6) rfl rfl ?_
            refine g_zret rfl rfl (by omega) ?_
            refine ⟨_, _, rfl, hm, hf0, Or.inr ⟨rfl, ?_, rfl⟩, fun j hj => rfl⟩
            show stay_0 (m.1 27) (m.2.1 62 0, m.2.1 62 1, m.2.1 62 2, m.2.1 62 3, m.2.1 62 4, m.2.1 62 5, m.2.1 62 6) 1 = none
            dsimp only [stay_0]
            repeat (split <;> try (exfalso; omega))
            all_goals first | rfl | omega
          · intro k80
            exfalso; omega
        · intro k81
          refine g_iconst rfl ?_
          refine g_goto rfl ?_
          refine g_istore (n := 6) (lo' := [(5, vI (m.2.1 62 2)), (4, vI (m.2.1 62 0)), (0, vR 61), (1, vI 0), (2, vI 0), (3, vI 1)]) rfl rfl ?_
          refine g_iload (n := 6) rfl rfl ?_
          refine g_if_eq (by decide) (by decide) rfl ?_ ?_
          · intro k82
            exfalso; omega
          · intro k83
            refine g_aload_n (n := 0) rfl rfl ?_
            refine g_getf (v := vR 62) rfl (kl_61 _) rfl ?_
            refine g_iload_n (n := 1) rfl rfl ?_
            refine g_iconst rfl ?_
            refine g_iaddE (z := 4) (by decide) rfl ?_
            refine g_iload_n (n := 3) rfl rfl ?_
            refine g_if_ne (by decide) (by decide) rfl ?_ ?_
            · intro k84
              refine g_iload_n (n := 3) rfl rfl ?_
              refine g_iconst rfl ?_
              refine g_icmp_ne (by decide) (by decide) (by decide) (by decide) rfl ?_ ?_
              · intro k85
                exfalso; omega
              · intro k86
                refine g_iload (n := 4) rfl rfl ?_
                refine g_goto rfl ?_
                refine g_iAst (f := m.2.1 62) (m' := (kA m 62 (up (m.2.1 62) 4 (m.2.1 62 0)))) rfl (kl_62 _) (by decide) (by omega) (by omega) (kA_62 _ _) ?_
                have hm87 : kI (kA m 62 (up (m.2.1 62) 4 (m.2.1 62 0))) := kI_U hm 62 rfl (show ((-2147483648) : Int) ≤ m.2.1 62 0 by omega) (show m.2.1 62 0 ≤ (2147483647 : Int) by omega)
                have hf88 : fr [] [62] m (kA m 62 (up (m.2.1 62) 4 (m.2.1 62 0))) := fr_A hf0 62 _ rfl
                refine g_aload_n (n := 0) rfl rfl ?_
                refine g_getf (v := vR 62) rfl (kl_61 _) rfl ?_
                refine g_iload_n (n := 1) rfl rfl ?_
                refine g_iconst rfl ?_
                refine g_iaddE (z := 5) (by decide) rfl ?_
                refine g_dup2 rfl rfl rfl ?_
                refine g_ialE (f := up (m.2.1 62) 4 (m.2.1 62 0)) (v := m.2.1 62 5) rfl (kl_62 _) (by decide) (by decide) (by decide) rfl ?_
                refine g_iload_n (n := 3) rfl rfl ?_
                refine g_iconst rfl ?_
                refine g_icmp_ne (by decide) (by decide) (by decide) (by decide) rfl ?_ ?_
                · intro k89
                  refine g_iconst rfl ?_
                  refine g_iand rfl ?_
                  intro z90 h91 h92 h93
                  have h94 : z90 = m.2.1 62 5 := b_andm1 h91 (by omega) (by omega)
                  refine g_iAst (f := up (m.2.1 62) 4 (m.2.1 62 0)) (m' := (kA (kA m 62 (up (m.2.1 62) 4 (m.2.1 62 0))) 62 (up (up (m.2.1 62) 4 (m.2.1 62 0)) 5 z90))) rfl (kl_62 _) (by decide) (by omega) (by omega) (kA_62 _ _) ?_
                  have hm95 : kI (kA (kA m 62 (up (m.2.1 62) 4 (m.2.1 62 0))) 62 (up (up (m.2.1 62) 4 (m.2.1 62 0)) 5 z90)) := kI_U hm87 62 rfl (show ((-2147483648) : Int) ≤ z90 by omega) (show z90 ≤ (2147483647 : Int) by omega)
                  have hf96 : fr [] [62] m (kA (kA m 62 (up (m.2.1 62) 4 (m.2.1 62 0))) 62 (up (up (m.2.1 62) 4 (m.2.1 62 0)) 5 z90)) := fr_A hf88 62 _ rfl
                  refine g_aload_n (n := 0) rfl rfl ?_
                  refine g_getf (v := vR 62) rfl (kl_61 _) rfl ?_
                  refine g_iload_n (n := 1) rfl rfl ?_
                  refine g_iconst rfl ?_
                  refine g_iaddE (z := 2) (by decide) rfl ?_
                  refine g_iload_n (n := 2) rfl rfl ?_
                  refine g_iaddE (z := 2) (by decide) rfl ?_
                  refine g_iload_n (n := 3) rfl rfl ?_
                  refine g_if_ne (by decide) (by decide) rfl ?_ ?_
                  · intro k97
                    refine g_iload_n (n := 3) rfl rfl ?_
                    refine g_iconst rfl ?_
                    refine g_icmp_ne (by decide) (by decide) (by decide) (by decide) rfl ?_ ?_
                    · intro k98
                      refine g_iconst rfl ?_
                      refine g_iAst (f := up (up (m.2.1 62) 4 (m.2.1 62 0)) 5 z90) (m' := (kA (kA (kA m 62 (up (m.2.1 62) 4 (m.2.1 62 0))) 62 (up (up (m.2.1 62) 4 (m.2.1 62 0)) 5 z90)) 62 (up (up (up (m.2.1 62) 4 (m.2.1 62 0)) 5 z90) 2 0))) rfl (kl_62 _) (by decide) (by omega) (by omega) (kA_62 _ _) ?_
                      have hm99 : kI (kA (kA (kA m 62 (up (m.2.1 62) 4 (m.2.1 62 0))) 62 (up (up (m.2.1 62) 4 (m.2.1 62 0)) 5 z90)) 62 (up (up (up (m.2.1 62) 4 (m.2.1 62 0)) 5 z90) 2 0)) := kI_U hm95 62 rfl (show ((-2147483648) : Int) ≤ 0 by omega) (show 0 ≤ (2147483647 : Int) by omega)
                      have hf100 : fr [] [62] m (kA (kA (kA m 62 (up (m.2.1 62) 4 (m.2.1 62 0))) 62 (up (up (m.2.1 62) 4 (m.2.1 62 0)) 5 z90)) 62 (up (up (up (m.2.1 62) 4 (m.2.1 62 0)) 5 z90) 2 0)) := fr_A hf96 62 _ rfl
                      refine g_iload (n := 6) rfl rfl ?_
                      refine g_zret rfl rfl (by omega) ?_
                      refine ⟨_, _, rfl, hm99, hf100, Or.inl ⟨rfl, ?_⟩, (fun j hj => by show (up (up (up (m.2.1 62) 4 (m.2.1 62 0)) 5 z90) 2 0) j = m.2.1 62 j; rw [up_ne _ (by omega), up_ne _ (by omega), up_ne _ (by omega)])⟩
                      show stay_0 (m.1 27) (m.2.1 62 0, m.2.1 62 1, m.2.1 62 2, m.2.1 62 3, m.2.1 62 4, m.2.1 62 5, m.2.1 62 6) 1 = some (m.2.1 62 0, m.2.1 62 1, 0, m.2.1 62 3, m.2.1 62 0, z90, m.2.1 62 6)
                      simp only [h94]
                      dsimp only [stay_0]
                      repeat (split <;> try (exfalso; omega))
                      all_goals first | rfl | omega
                    · intro k101
                      exfalso; omega
                  · intro k102
                    exfalso; omega
                · intro k103
                  exfalso; omega
            · intro k104
              exfalso; omega
    · intro k105
      exfalso; omega
  · refine g_aload_n (n := 0) rfl rfl ?_
    refine g_getf (v := vR 62) rfl (kl_61 _) rfl ?_
    refine g_iload_n (n := 1) rfl rfl ?_
    refine g_iconst rfl ?_
    refine g_iaddE (z := 0) (by decide) rfl ?_
    refine g_iload_n (n := 2) rfl rfl ?_
    refine g_iaddE (z := 0) (by decide) rfl ?_
    refine g_ialE (f := m.2.1 62) (v := m.2.1 62 0) rfl (kl_62 _) (by decide) (by decide) (by decide) rfl ?_
    refine g_istore (n := 4) (lo' := [(0, vR 61), (1, vI 0), (2, vI 0), (3, vI 2)]) rfl rfl ?_
    refine g_aload_n (n := 0) rfl rfl ?_
    refine g_getf (v := vR 62) rfl (kl_61 _) rfl ?_
    refine g_iload_n (n := 1) rfl rfl ?_
    refine g_iconst rfl ?_
    refine g_iaddE (z := 2) (by decide) rfl ?_
    refine g_iload_n (n := 2) rfl rfl ?_
    refine g_iaddE (z := 2) (by decide) rfl ?_
    refine g_ialE (f := m.2.1 62) (v := m.2.1 62 2) rfl (kl_62 _) (by decide) (by decide) (by decide) rfl ?_
    refine g_istore (n := 5) (lo' := [(4, vI (m.2.1 62 0)), (0, vR 61), (1, vI 0), (2, vI 0), (3, vI 2)]) rfl rfl ?_
    refine g_iload_n (n := 3) rfl rfl ?_
    refine g_if_ne (by decide) (by decide) rfl ?_ ?_
    · intro k106
      refine g_iload_n (n := 3) rfl rfl ?_
      refine g_iconst rfl ?_
      refine g_icmp_ne (by decide) (by decide) (by decide) (by decide) rfl ?_ ?_
      · intro k107
        refine g_iload_n (n := 3) rfl rfl ?_
        refine g_iconst rfl ?_
        refine g_icmp_ne (by decide) (by decide) (by decide) (by decide) rfl ?_ ?_
        · intro k108
          exfalso; omega
        · intro k109
          refine g_iload (n := 5) rfl rfl ?_
          refine g_if_ne (by omega) (by omega) rfl ?_ ?_
          · intro k110
            refine g_iconst rfl ?_
            refine g_goto rfl ?_
            refine g_istore (n := 6) (lo' := [(5, vI (m.2.1 62 2)), (4, vI (m.2.1 62 0)), (0, vR 61), (1, vI 0), (2, vI 0), (3, vI 2)]) rfl rfl ?_
            refine g_iload (n := 6) rfl rfl ?_
            refine g_if_eq (by decide) (by decide) rfl ?_ ?_
            · intro k111
              refine g_iload (n := 6) rfl rfl ?_
              refine g_zret rfl rfl (by omega) ?_
              refine ⟨_, _, rfl, hm, hf0, Or.inr ⟨rfl, ?_, rfl⟩, fun j hj => rfl⟩
              show stay_0 (m.1 27) (m.2.1 62 0, m.2.1 62 1, m.2.1 62 2, m.2.1 62 3, m.2.1 62 4, m.2.1 62 5, m.2.1 62 6) 2 = none
              dsimp only [stay_0]
              repeat (split <;> try (exfalso; omega))
              all_goals first | rfl | omega
            · intro k112
              exfalso; omega
          · intro k113
            refine g_aload_n (n := 0) rfl rfl ?_
            refine g_getf (v := vI (m.1 27)) rfl (kl_61 _) rfl ?_
            refine g_iload (n := 4) rfl rfl ?_
            refine g_icmp_ne (by omega) (by omega) (by omega) (by omega) rfl ?_ ?_
            · intro k114
              refine g_iconst rfl ?_
              refine g_goto rfl ?_
              refine g_istore (n := 6) (lo' := [(5, vI (m.2.1 62 2)), (4, vI (m.2.1 62 0)), (0, vR 61), (1, vI 0), (2, vI 0), (3, vI 2)]) rfl rfl ?_
              refine g_iload (n := 6) rfl rfl ?_
              refine g_if_eq (by decide) (by decide) rfl ?_ ?_
              · intro k115
                refine g_iload (n := 6) rfl rfl ?_
                refine g_zret rfl rfl (by omega) ?_
                refine ⟨_, _, rfl, hm, hf0, Or.inr ⟨rfl, ?_, rfl⟩, fun j hj => rfl⟩
                show stay_0 (m.1 27) (m.2.1 62 0, m.2.1 62 1, m.2.1 62 2, m.2.1 62 3, m.2.1 62 4, m.2.1 62 5, m.2.1 62 6) 2 = none
                dsimp only [stay_0]
                repeat (split <;> try (exfalso; omega))
                all_goals first | rfl | omega
              · intro k116
                exfalso; omega
            · intro k117
              refine g_iconst rfl ?_
              refine g_goto rfl ?_
              refine g_istore (n := 6) (lo' := [(5, vI (m.2.1 62 2)), (4, vI (m.2.1 62 0)), (0, vR 61), (1, vI 0), (2, vI 0), (3, vI 2)]) rfl rfl ?_
              refine g_iload (n := 6) rfl rfl ?_
              refine g_if_eq (by decide) (by decide) rfl ?_ ?_
              · intro k118
                exfalso; omega
              · intro k119
                refine g_aload_n (n := 0) rfl rfl ?_
                refine g_getf (v := vR 62) rfl (kl_61 _) rfl ?_
                refine g_iload_n (n := 1) rfl rfl ?_
                refine g_iconst rfl ?_
                refine g_iaddE (z := 4) (by decide) rfl ?_
                refine g_iload_n (n := 3) rfl rfl ?_
                refine g_if_ne (by decide) (by decide) rfl ?_ ?_
                · intro k120
                  refine g_iload_n (n := 3) rfl rfl ?_
                  refine g_iconst rfl ?_
                  refine g_icmp_ne (by decide) (by decide) (by decide) (by decide) rfl ?_ ?_
                  · intro k121
                    refine g_aload_n (n := 0) rfl rfl ?_
                    refine g_getf (v := vR 62) rfl (kl_61 _) rfl ?_
                    refine g_iload_n (n := 1) rfl rfl ?_
                    refine g_iconst rfl ?_
                    refine g_iaddE (z := 4) (by decide) rfl ?_
                    refine g_ialE (f := m.2.1 62) (v := m.2.1 62 4) rfl (kl_62 _) (by decide) (by decide) (by decide) rfl ?_
                    refine g_iAst (f := m.2.1 62) (m' := (kA m 62 (up (m.2.1 62) 4 (m.2.1 62 4)))) rfl (kl_62 _) (by decide) (by omega) (by omega) (kA_62 _ _) ?_
                    have hm122 : kI (kA m 62 (up (m.2.1 62) 4 (m.2.1 62 4))) := kI_U hm 62 rfl (show ((-2147483648) : Int) ≤ m.2.1 62 4 by omega) (show m.2.1 62 4 ≤ (2147483647 : Int) by omega)
                    have hf123 : fr [] [62] m (kA m 62 (up (m.2.1 62) 4 (m.2.1 62 4))) := fr_A hf0 62 _ rfl
                    refine g_aload_n (n := 0) rfl rfl ?_
                    refine g_getf (v := vR 62) rfl (kl_61 _) rfl ?_
                    refine g_iload_n (n := 1) rfl rfl ?_
                    refine g_iconst rfl ?_
                    refine g_iaddE (z := 5) (by decide) rfl ?_
                    refine g_dup2 rfl rfl rfl ?_
                    refine g_ialE (f := up (m.2.1 62) 4 (m.2.1 62 4)) (v := m.2.1 62 5) rfl (kl_62 _) (by decide) (by decide) (by decide) rfl ?_
                    refine g_iload_n (n := 3) rfl rfl ?_
                    refine g_iconst rfl ?_
                    refine g_icmp_ne (by decide) (by decide) (by decide) (by decide) rfl ?_ ?_
                    · intro k124
                      refine g_iconst rfl ?_
                      refine g_iand rfl ?_
                      intro z125 h126 h127 h128
                      have h129 : z125 = m.2.1 62 5 := b_andm1 h126 (by omega) (by omega)
                      refine g_iAst (f := up (m.2.1 62) 4 (m.2.1 62 4)) (m' := (kA (kA m 62 (up (m.2.1 62) 4 (m.2.1 62 4))) 62 (up (up (m.2.1 62) 4 (m.2.1 62 4)) 5 z125))) rfl (kl_62 _) (by decide) (by omega) (by omega) (kA_62 _ _) ?_
                      have hm130 : kI (kA (kA m 62 (up (m.2.1 62) 4 (m.2.1 62 4))) 62 (up (up (m.2.1 62) 4 (m.2.1 62 4)) 5 z125)) := kI_U hm122 62 rfl (show ((-2147483648) : Int) ≤ z125 by omega) (show z125 ≤ (2147483647 : Int) by omega)
                      have hf131 : fr [] [62] m (kA (kA m 62 (up (m.2.1 62) 4 (m.2.1 62 4))) 62 (up (up (m.2.1 62) 4 (m.2.1 62 4)) 5 z125)) := fr_A hf123 62 _ rfl
                      refine g_aload_n (n := 0) rfl rfl ?_
                      refine g_getf (v := vR 62) rfl (kl_61 _) rfl ?_
                      refine g_iload_n (n := 1) rfl rfl ?_
                      refine g_iconst rfl ?_
                      refine g_iaddE (z := 2) (by decide) rfl ?_
                      refine g_iload_n (n := 2) rfl rfl ?_
                      refine g_iaddE (z := 2) (by decide) rfl ?_
                      refine g_iload_n (n := 3) rfl rfl ?_
                      refine g_if_ne (by decide) (by decide) rfl ?_ ?_
                      · intro k132
                        refine g_iload_n (n := 3) rfl rfl ?_
                        refine g_iconst rfl ?_
                        refine g_icmp_ne (by decide) (by decide) (by decide) (by decide) rfl ?_ ?_
                        · intro k133
                          exfalso; omega
                        · intro k134
                          refine g_iconst rfl ?_
                          refine g_goto rfl ?_
                          refine g_iAst (f := up (up (m.2.1 62) 4 (m.2.1 62 4)) 5 z125) (m' := (kA (kA (kA m 62 (up (m.2.1 62) 4 (m.2.1 62 4))) 62 (up (up (m.2.1 62) 4 (m.2.1 62 4)) 5 z125)) 62 (up (up (up (m.2.1 62) 4 (m.2.1 62 4)) 5 z125) 2 1))) rfl (kl_62 _) (by decide) (by omega) (by omega) (kA_62 _ _) ?_
                          have hm135 : kI (kA (kA (kA m 62 (up (m.2.1 62) 4 (m.2.1 62 4))) 62 (up (up (m.2.1 62) 4 (m.2.1 62 4)) 5 z125)) 62 (up (up (up (m.2.1 62) 4 (m.2.1 62 4)) 5 z125) 2 1)) := kI_U hm130 62 rfl (show ((-2147483648) : Int) ≤ 1 by omega) (show 1 ≤ (2147483647 : Int) by omega)
                          have hf136 : fr [] [62] m (kA (kA (kA m 62 (up (m.2.1 62) 4 (m.2.1 62 4))) 62 (up (up (m.2.1 62) 4 (m.2.1 62 4)) 5 z125)) 62 (up (up (up (m.2.1 62) 4 (m.2.1 62 4)) 5 z125) 2 1)) := fr_A hf131 62 _ rfl
                          refine g_iload (n := 6) rfl rfl ?_
                          refine g_zret rfl rfl (by omega) ?_
                          refine ⟨_, _, rfl, hm135, hf136, Or.inl ⟨rfl, ?_⟩, (fun j hj => by show (up (up (up (m.2.1 62) 4 (m.2.1 62 4)) 5 z125) 2 1) j = m.2.1 62 j; rw [up_ne _ (by omega), up_ne _ (by omega), up_ne _ (by omega)])⟩
                          show stay_0 (m.1 27) (m.2.1 62 0, m.2.1 62 1, m.2.1 62 2, m.2.1 62 3, m.2.1 62 4, m.2.1 62 5, m.2.1 62 6) 2 = some (m.2.1 62 0, m.2.1 62 1, 1, m.2.1 62 3, m.2.1 62 4, z125, m.2.1 62 6)
                          simp only [h129]
                          dsimp only [stay_0]
                          repeat (split <;> try (exfalso; omega))
                          all_goals first | rfl | omega
                      · intro k137
                        exfalso; omega
                    · intro k138
                      exfalso; omega
                  · intro k139
                    exfalso; omega
                · intro k140
                  exfalso; omega
      · intro k141
        exfalso; omega
    · intro k142
      exfalso; omega
  · refine g_aload_n (n := 0) rfl rfl ?_
    refine g_getf (v := vR 62) rfl (kl_61 _) rfl ?_
    refine g_iload_n (n := 1) rfl rfl ?_
    refine g_iconst rfl ?_
    refine g_iaddE (z := 0) (by decide) rfl ?_
    refine g_iload_n (n := 2) rfl rfl ?_
    refine g_iaddE (z := 0) (by decide) rfl ?_
    refine g_ialE (f := m.2.1 62) (v := m.2.1 62 0) rfl (kl_62 _) (by decide) (by decide) (by decide) rfl ?_
    refine g_istore (n := 4) (lo' := [(0, vR 61), (1, vI 0), (2, vI 0), (3, vI 3)]) rfl rfl ?_
    refine g_aload_n (n := 0) rfl rfl ?_
    refine g_getf (v := vR 62) rfl (kl_61 _) rfl ?_
    refine g_iload_n (n := 1) rfl rfl ?_
    refine g_iconst rfl ?_
    refine g_iaddE (z := 2) (by decide) rfl ?_
    refine g_iload_n (n := 2) rfl rfl ?_
    refine g_iaddE (z := 2) (by decide) rfl ?_
    refine g_ialE (f := m.2.1 62) (v := m.2.1 62 2) rfl (kl_62 _) (by decide) (by decide) (by decide) rfl ?_
    refine g_istore (n := 5) (lo' := [(4, vI (m.2.1 62 0)), (0, vR 61), (1, vI 0), (2, vI 0), (3, vI 3)]) rfl rfl ?_
    refine g_iload_n (n := 3) rfl rfl ?_
    refine g_if_ne (by decide) (by decide) rfl ?_ ?_
    · intro k143
      refine g_iload_n (n := 3) rfl rfl ?_
      refine g_iconst rfl ?_
      refine g_icmp_ne (by decide) (by decide) (by decide) (by decide) rfl ?_ ?_
      · intro k144
        refine g_iload_n (n := 3) rfl rfl ?_
        refine g_iconst rfl ?_
        refine g_icmp_ne (by decide) (by decide) (by decide) (by decide) rfl ?_ ?_
        · intro k145
          refine g_iload (n := 5) rfl rfl ?_
          refine g_iconst rfl ?_
          refine g_icmp_ne (by omega) (by omega) (by decide) (by decide) rfl ?_ ?_
          · intro k146
            refine g_iconst rfl ?_
            refine g_istore (n := 6) (lo' := [(5, vI (m.2.1 62 2)), (4, vI (m.2.1 62 0)), (0, vR 61), (1, vI 0), (2, vI 0), (3, vI 3)]) rfl rfl ?_
            refine g_iload (n := 6) rfl rfl ?_
            refine g_if_eq (by decide) (by decide) rfl ?_ ?_
            · intro k147
              refine g_iload (n := 6) rfl rfl ?_
              refine g_zret rfl rfl (by omega) ?_
              refine ⟨_, _, rfl, hm, hf0, Or.inr ⟨rfl, ?_, rfl⟩, fun j hj => rfl⟩
              show stay_0 (m.1 27) (m.2.1 62 0, m.2.1 62 1, m.2.1 62 2, m.2.1 62 3, m.2.1 62 4, m.2.1 62 5, m.2.1 62 6) 3 = none
              dsimp only [stay_0]
              repeat (split <;> try (exfalso; omega))
              all_goals first | rfl | omega
            · intro k148
              exfalso; omega
          · intro k149
            refine g_aload_n (n := 0) rfl rfl ?_
            refine g_getf (v := vR 62) rfl (kl_61 _) rfl ?_
            refine g_iload_n (n := 1) rfl rfl ?_
            refine g_iconst rfl ?_
            refine g_iaddE (z := 5) (by decide) rfl ?_
            refine g_ialE (f := m.2.1 62) (v := m.2.1 62 5) rfl (kl_62 _) (by decide) (by decide) (by decide) rfl ?_
            refine g_iload (n := 4) rfl rfl ?_
            refine c_sI (ps := [vI (m.2.1 62 0), vI (m.2.1 62 5)]) (r := []) (as := [vI (m.2.1 62 5), vI (m.2.1 62 0)]) (cs' := 0) (sl' := 0) rfl rfl rfl rfl rfl rfl (d_has (d := d - 1) (q := q - (2 + 19)) (by omega) (by omega) hm (s := m.2.1 62 5) (k := m.2.1 62 0) (show (-2147483648) ≤ m.2.1 62 5 ∧ m.2.1 62 5 ≤ 2147483647 by omega) (show 0 ≤ m.2.1 62 0 ∧ m.2.1 62 0 ≤ 5 by omega)) (by omega) (show 2 + 19 ≤ q by omega) (Nat.le_of_ble_eq_true rfl) (Nat.le_of_ble_eq_true rfl) rfl rfl rfl ?_
            rintro z150 m151 ⟨rfl, p153, p154, p155⟩
            subst p153
            refine g_if_eq (by omega) (by omega) rfl ?_ ?_
            · intro k156
              refine g_iconst rfl ?_
              refine g_istore (n := 6) (lo' := [(5, vI (m.2.1 62 2)), (4, vI (m.2.1 62 0)), (0, vR 61), (1, vI 0), (2, vI 0), (3, vI 3)]) rfl rfl ?_
              refine g_iload (n := 6) rfl rfl ?_
              refine g_if_eq (by decide) (by decide) rfl ?_ ?_
              · intro k157
                refine g_iload (n := 6) rfl rfl ?_
                refine g_zret rfl rfl (by omega) ?_
                refine ⟨_, _, rfl, hm, hf0, Or.inr ⟨rfl, ?_, rfl⟩, fun j hj => rfl⟩
                show stay_0 (m.1 27) (m.2.1 62 0, m.2.1 62 1, m.2.1 62 2, m.2.1 62 3, m.2.1 62 4, m.2.1 62 5, m.2.1 62 6) 3 = none
                dsimp only [stay_0]
                repeat (split <;> try (exfalso; omega))
                all_goals first | rfl | omega
              · intro k158
                exfalso; omega
            · intro k159
              refine g_iconst rfl ?_
              refine g_goto rfl ?_
              refine g_istore (n := 6) (lo' := [(5, vI (m.2.1 62 2)), (4, vI (m.2.1 62 0)), (0, vR 61), (1, vI 0), (2, vI 0), (3, vI 3)]) rfl rfl ?_
              refine g_iload (n := 6) rfl rfl ?_
              refine g_if_eq (by decide) (by decide) rfl ?_ ?_
              · intro k160
                exfalso; omega
              · intro k161
                refine g_aload_n (n := 0) rfl rfl ?_
                refine g_getf (v := vR 62) rfl (kl_61 _) rfl ?_
                refine g_iload_n (n := 1) rfl rfl ?_
                refine g_iconst rfl ?_
                refine g_iaddE (z := 4) (by decide) rfl ?_
                refine g_iload_n (n := 3) rfl rfl ?_
                refine g_if_ne (by decide) (by decide) rfl ?_ ?_
                · intro k162
                  refine g_iload_n (n := 3) rfl rfl ?_
                  refine g_iconst rfl ?_
                  refine g_icmp_ne (by decide) (by decide) (by decide) (by decide) rfl ?_ ?_
                  · intro k163
                    refine g_aload_n (n := 0) rfl rfl ?_
                    refine g_getf (v := vR 62) rfl (kl_61 _) rfl ?_
                    refine g_iload_n (n := 1) rfl rfl ?_
                    refine g_iconst rfl ?_
                    refine g_iaddE (z := 4) (by decide) rfl ?_
                    refine g_ialE (f := m.2.1 62) (v := m.2.1 62 4) rfl (kl_62 _) (by decide) (by decide) (by decide) rfl ?_
                    refine g_iAst (f := m.2.1 62) (m' := (kA m 62 (up (m.2.1 62) 4 (m.2.1 62 4)))) rfl (kl_62 _) (by decide) (by omega) (by omega) (kA_62 _ _) ?_
                    have hm164 : kI (kA m 62 (up (m.2.1 62) 4 (m.2.1 62 4))) := kI_U hm 62 rfl (show ((-2147483648) : Int) ≤ m.2.1 62 4 by omega) (show m.2.1 62 4 ≤ (2147483647 : Int) by omega)
                    have hf165 : fr [] [62] m (kA m 62 (up (m.2.1 62) 4 (m.2.1 62 4))) := fr_A hf0 62 _ rfl
                    refine g_aload_n (n := 0) rfl rfl ?_
                    refine g_getf (v := vR 62) rfl (kl_61 _) rfl ?_
                    refine g_iload_n (n := 1) rfl rfl ?_
                    refine g_iconst rfl ?_
                    refine g_iaddE (z := 5) (by decide) rfl ?_
                    refine g_dup2 rfl rfl rfl ?_
                    refine g_ialE (f := up (m.2.1 62) 4 (m.2.1 62 4)) (v := m.2.1 62 5) rfl (kl_62 _) (by decide) (by decide) (by decide) rfl ?_
                    refine g_iload_n (n := 3) rfl rfl ?_
                    refine g_iconst rfl ?_
                    refine g_icmp_ne (by decide) (by decide) (by decide) (by decide) rfl ?_ ?_
                    · intro k166
                      exfalso; omega
                    · intro k167
                      refine g_iconst rfl ?_
                      refine g_iload (n := 4) rfl rfl ?_
                      refine g_ishl rfl ?_
                      intro z168 h169 h170 h171
                      refine g_iconst rfl ?_
                      refine g_ixor rfl ?_
                      intro z173 h174 h175 h176
                      refine g_goto rfl ?_
                      refine g_iand rfl ?_
                      intro z178 h179 h180 h181
                      have h182 : z178 = clr (m.2.1 62 5) (m.2.1 62 0) := b_clr h169 h174 h179 (by omega) (by omega) (by omega) (by omega)
                      have h183 := b_clr_rng (u := m.2.1 62 5) (r := m.2.1 62 0) (by omega) (by omega) (by omega) (by omega)
                      refine g_iAst (f := up (m.2.1 62) 4 (m.2.1 62 4)) (m' := (kA (kA m 62 (up (m.2.1 62) 4 (m.2.1 62 4))) 62 (up (up (m.2.1 62) 4 (m.2.1 62 4)) 5 z178))) rfl (kl_62 _) (by decide) (by omega) (by omega) (kA_62 _ _) ?_
                      have hm184 : kI (kA (kA m 62 (up (m.2.1 62) 4 (m.2.1 62 4))) 62 (up (up (m.2.1 62) 4 (m.2.1 62 4)) 5 z178)) := kI_U hm164 62 rfl (show ((-2147483648) : Int) ≤ z178 by omega) (show z178 ≤ (2147483647 : Int) by omega)
                      have hf185 : fr [] [62] m (kA (kA m 62 (up (m.2.1 62) 4 (m.2.1 62 4))) 62 (up (up (m.2.1 62) 4 (m.2.1 62 4)) 5 z178)) := fr_A hf165 62 _ rfl
                      refine g_aload_n (n := 0) rfl rfl ?_
                      refine g_getf (v := vR 62) rfl (kl_61 _) rfl ?_
                      refine g_iload_n (n := 1) rfl rfl ?_
                      refine g_iconst rfl ?_
                      refine g_iaddE (z := 2) (by decide) rfl ?_
                      refine g_iload_n (n := 2) rfl rfl ?_
                      refine g_iaddE (z := 2) (by decide) rfl ?_
                      refine g_iload_n (n := 3) rfl rfl ?_
                      refine g_if_ne (by decide) (by decide) rfl ?_ ?_
                      · intro k186
                        refine g_iload_n (n := 3) rfl rfl ?_
                        refine g_iconst rfl ?_
                        refine g_icmp_ne (by decide) (by decide) (by decide) (by decide) rfl ?_ ?_
                        · intro k187
                          refine g_iconst rfl ?_
                          refine g_iAst (f := up (up (m.2.1 62) 4 (m.2.1 62 4)) 5 z178) (m' := (kA (kA (kA m 62 (up (m.2.1 62) 4 (m.2.1 62 4))) 62 (up (up (m.2.1 62) 4 (m.2.1 62 4)) 5 z178)) 62 (up (up (up (m.2.1 62) 4 (m.2.1 62 4)) 5 z178) 2 0))) rfl (kl_62 _) (by decide) (by omega) (by omega) (kA_62 _ _) ?_
                          have hm188 : kI (kA (kA (kA m 62 (up (m.2.1 62) 4 (m.2.1 62 4))) 62 (up (up (m.2.1 62) 4 (m.2.1 62 4)) 5 z178)) 62 (up (up (up (m.2.1 62) 4 (m.2.1 62 4)) 5 z178) 2 0)) := kI_U hm184 62 rfl (show ((-2147483648) : Int) ≤ 0 by omega) (show 0 ≤ (2147483647 : Int) by omega)
                          have hf189 : fr [] [62] m (kA (kA (kA m 62 (up (m.2.1 62) 4 (m.2.1 62 4))) 62 (up (up (m.2.1 62) 4 (m.2.1 62 4)) 5 z178)) 62 (up (up (up (m.2.1 62) 4 (m.2.1 62 4)) 5 z178) 2 0)) := fr_A hf185 62 _ rfl
                          refine g_iload (n := 6) rfl rfl ?_
                          refine g_zret rfl rfl (by omega) ?_
                          refine ⟨_, _, rfl, hm188, hf189, Or.inl ⟨rfl, ?_⟩, (fun j hj => by show (up (up (up (m.2.1 62) 4 (m.2.1 62 4)) 5 z178) 2 0) j = m.2.1 62 j; rw [up_ne _ (by omega), up_ne _ (by omega), up_ne _ (by omega)])⟩
                          show stay_0 (m.1 27) (m.2.1 62 0, m.2.1 62 1, m.2.1 62 2, m.2.1 62 3, m.2.1 62 4, m.2.1 62 5, m.2.1 62 6) 3 = some (m.2.1 62 0, m.2.1 62 1, 0, m.2.1 62 3, m.2.1 62 4, z178, m.2.1 62 6)
                          simp only [h182]
                          dsimp only [stay_0]
                          repeat (split <;> try (exfalso; omega))
                          all_goals first | rfl | omega
                        · intro k190
                          exfalso; omega
                      · intro k191
                        exfalso; omega
                  · intro k192
                    exfalso; omega
                · intro k193
                  exfalso; omega
        · intro k194
          exfalso; omega
      · intro k195
        exfalso; omega
    · intro k196
      exfalso; omega
theorem d_hands_0_0 {V : cg_V} {d q : Nat} (hd : 1 ≤ d) (hq : 22 ≤ q) {m : kM} (hm : kI m) {e : Int} (h_e : 0 ≤ e ∧ e ≤ 9) (hw : kw (kr0 (m.2.1 62))) : cg_S V d q mX10_hands [vR 61, vI 0, vI 0, vI e] (kl m) (R_I (fun z m' => (kI m') ∧ (fr [] [62] m m') ∧ ((z = 1 ∧ hand_0 (m.2.1 66) (kr0 (m.2.1 62)) e = some (kr0 (m'.2.1 62))) ∨ (z = 0 ∧ hand_0 (m.2.1 66) (kr0 (m.2.1 62)) e = none ∧ (kr0 (m'.2.1 62)) = (kr0 (m.2.1 62)))) ∧ (∀ j : Int, (j < 0 ∨ 7 ≤ j) → m'.2.1 62 j = m.2.1 62 j))) := by
  have hf0 : fr [] [62] m m := fr_rf m
  refine cg_of (List.mem_of_getElem? (show ae_MT[148]? = some mX10_hands from rfl)) (Nat.le_of_ble_eq_true rfl) ?_
  show cg_G V mX10_hands d q _ 0 [(0, vR 61), (1, vI 0), (2, vI 0), (3, vI e)] [] (kl m) 0 0
  have w0 : 0 ≤ m.2.1 62 0 ∧ m.2.1 62 0 ≤ 5 := hw.1
  have w1 : 0 ≤ m.2.1 62 1 ∧ m.2.1 62 1 ≤ 5 := hw.2.1
  have w2 : 0 ≤ m.2.1 62 2 ∧ m.2.1 62 2 ≤ 2 := hw.2.2.1
  have w3 : 0 ≤ m.2.1 62 3 ∧ m.2.1 62 3 ≤ 2 := hw.2.2.2.1
  have w4 : (-1) ≤ m.2.1 62 4 ∧ m.2.1 62 4 ≤ 5 := hw.2.2.2.2.1
  have w5 : 0 ≤ m.2.1 62 5 ∧ m.2.1 62 5 ≤ 63 := hw.2.2.2.2.2.1
  have w6 : 0 ≤ m.2.1 62 6 ∧ m.2.1 62 6 ≤ 3 := hw.2.2.2.2.2.2.1
  have w7 : 0 ≤ m.2.1 62 4 ∨ m.2.1 62 2 = 2 ∨ m.2.1 62 3 = 2 := hw.2.2.2.2.2.2.2
  refine g_aload_n (n := 0) rfl rfl ?_
  refine g_iload_n (n := 3) rfl rfl ?_
  refine g_aload_n (n := 0) rfl rfl ?_
  refine g_getf (v := vR 62) rfl (kl_61 _) rfl ?_
  refine g_iload_n (n := 1) rfl rfl ?_
  refine g_iconst rfl ?_
  refine g_iaddE (z := 0) (by decide) rfl ?_
  refine g_iload_n (n := 2) rfl rfl ?_
  refine g_iaddE (z := 0) (by decide) rfl ?_
  refine g_ialE (f := m.2.1 62) (v := m.2.1 62 0) rfl (kl_62 _) (by decide) (by decide) (by decide) rfl ?_
  refine c_vI (i := 61) (ps := [vI (m.2.1 62 0), vI e]) (r := []) (as := [vR 61, vI e, vI (m.2.1 62 0)]) (cs' := 0) (sl' := 0) rfl rfl rfl rfl rfl rfl (kl_61 _) (d_behind (d := d - 1) (q := q - (3 + 19)) (by omega) (by omega) hm (e := e) (r := m.2.1 62 0) (show 0 ≤ e ∧ e ≤ 9 by omega) (show (-2147483648) ≤ m.2.1 62 0 ∧ m.2.1 62 0 ≤ 2147483647 by omega)) (by omega) (show 3 + 19 ≤ q by omega) (Nat.le_of_ble_eq_true rfl) (Nat.le_of_ble_eq_true rfl) rfl rfl rfl ?_
  rintro z1 m2 ⟨rfl, p4, p5, p6⟩
  subst p4
  refine g_istore (n := 4) (lo' := [(0, vR 61), (1, vI 0), (2, vI 0), (3, vI e)]) rfl rfl ?_
  refine g_aload_n (n := 0) rfl rfl ?_
  refine g_getf (v := vR 62) rfl (kl_61 _) rfl ?_
  refine g_iload_n (n := 1) rfl rfl ?_
  refine g_iconst rfl ?_
  refine g_iaddE (z := 2) (by decide) rfl ?_
  refine g_iload_n (n := 2) rfl rfl ?_
  refine g_iaddE (z := 2) (by decide) rfl ?_
  refine g_ialE (f := m.2.1 62) (v := m.2.1 62 2) rfl (kl_62 _) (by decide) (by decide) (by decide) rfl ?_
  refine g_iconst rfl ?_
  refine g_icmp_ne (by omega) (by omega) (by decide) (by decide) rfl ?_ ?_
  · intro k7
    refine g_iconst rfl ?_
    refine g_zret rfl rfl (by omega) ?_
    refine ⟨_, _, rfl, hm, hf0, Or.inr ⟨rfl, ?_, rfl⟩, fun j hj => rfl⟩
    show hand_0 (m.2.1 66) (m.2.1 62 0, m.2.1 62 1, m.2.1 62 2, m.2.1 62 3, m.2.1 62 4, m.2.1 62 5, m.2.1 62 6) e = none
    dsimp only [hand_0]
    repeat (split <;> try (exfalso; omega))
    all_goals first | rfl | omega
  · intro k8
    refine g_iload (n := 4) rfl rfl ?_
    refine g_iconst rfl ?_
    refine g_icmp_eq (by omega) (by omega) (by decide) (by decide) rfl ?_ ?_
    · intro k9
      refine g_iconst rfl ?_
      refine g_zret rfl rfl (by omega) ?_
      refine ⟨_, _, rfl, hm, hf0, Or.inr ⟨rfl, ?_, rfl⟩, fun j hj => rfl⟩
      show hand_0 (m.2.1 66) (m.2.1 62 0, m.2.1 62 1, m.2.1 62 2, m.2.1 62 3, m.2.1 62 4, m.2.1 62 5, m.2.1 62 6) e = none
      dsimp only [hand_0]
      repeat (split <;> try (exfalso; omega))
      all_goals first | rfl | omega
    · intro k10
      refine g_aload_n (n := 0) rfl rfl ?_
      refine g_getf (v := vR 66) rfl (kl_61 _) rfl ?_
      refine g_iconst rfl ?_
      refine g_iload_n (n := 3) rfl rfl ?_
      refine g_imul rfl ?_
      refine g_iconst rfl ?_
      refine g_iadd rfl ?_
      have h11 : 0 ≤ m.2.1 66 ((4 * e) + 3) ∧ m.2.1 66 ((4 * e) + 3) ≤ 5 := hm.2 66 ((4 * e) + 3) (by omega) (show ((4 * e) + 3) < (40 : Int) by omega)
      refine g_iald (f := m.2.1 66) rfl (kl_66 _) (by decide) (by omega) (by omega) ?_
      refine g_if_ne (by omega) (by omega) rfl ?_ ?_
      · intro k12
        refine g_aload_n (n := 0) rfl rfl ?_
        refine g_getf (v := vR 62) rfl (kl_61 _) rfl ?_
        refine g_iload_n (n := 1) rfl rfl ?_
        refine g_iconst rfl ?_
        refine g_iaddE (z := 5) (by decide) rfl ?_
        refine g_ialE (f := m.2.1 62) (v := m.2.1 62 5) rfl (kl_62 _) (by decide) (by decide) (by decide) rfl ?_
        refine g_iload (n := 4) rfl rfl ?_
        refine c_sI (ps := [vI (beh (m.2.1 66) e (m.2.1 62 0)), vI (m.2.1 62 5)]) (r := []) (as := [vI (m.2.1 62 5), vI (beh (m.2.1 66) e (m.2.1 62 0))]) (cs' := 0) (sl' := 0) rfl rfl rfl rfl rfl rfl (d_has (d := d - 1) (q := q - (2 + 19)) (by omega) (by omega) hm (s := m.2.1 62 5) (k := (beh (m.2.1 66) e (m.2.1 62 0))) (show (-2147483648) ≤ m.2.1 62 5 ∧ m.2.1 62 5 ≤ 2147483647 by omega) (show 0 ≤ (beh (m.2.1 66) e (m.2.1 62 0)) ∧ (beh (m.2.1 66) e (m.2.1 62 0)) ≤ 5 by omega)) (by omega) (show 2 + 19 ≤ q by omega) (Nat.le_of_ble_eq_true rfl) (Nat.le_of_ble_eq_true rfl) rfl rfl rfl ?_
        rintro z13 m14 ⟨rfl, p16, p17, p18⟩
        subst p16
        refine g_istore (n := 5) (lo' := [(4, vI (beh (m.2.1 66) e (m.2.1 62 0))), (0, vR 61), (1, vI 0), (2, vI 0), (3, vI e)]) rfl rfl ?_
        refine g_iconst rfl ?_
        refine g_iload_n (n := 2) rfl rfl ?_
        refine g_isubE (z := 1) (by decide) rfl ?_
        refine g_istore (n := 6) (lo' := [(5, vI (hb (m.2.1 62 5) (beh (m.2.1 66) e (m.2.1 62 0)))), (4, vI (beh (m.2.1 66) e (m.2.1 62 0))), (0, vR 61), (1, vI 0), (2, vI 0), (3, vI e)]) rfl rfl ?_
        refine g_iload (n := 5) rfl rfl ?_
        refine g_if_ne (by omega) (by omega) rfl ?_ ?_
        · intro k19
          refine g_aload_n (n := 0) rfl rfl ?_
          refine g_getf (v := vR 62) rfl (kl_61 _) rfl ?_
          refine g_iload_n (n := 1) rfl rfl ?_
          refine g_iconst rfl ?_
          refine g_iaddE (z := 5) (by decide) rfl ?_
          refine g_dup2 rfl rfl rfl ?_
          refine g_ialE (f := m.2.1 62) (v := m.2.1 62 5) rfl (kl_62 _) (by decide) (by decide) (by decide) rfl ?_
          refine g_iload (n := 5) rfl rfl ?_
          refine g_if_eq (by omega) (by omega) rfl ?_ ?_
          · intro k20
            exfalso; omega
          · intro k21
            refine g_iconst rfl ?_
            refine g_iload (n := 4) rfl rfl ?_
            refine g_ishl rfl ?_
            intro z22 h23 h24 h25
            refine g_goto rfl ?_
            refine g_iconst rfl ?_
            refine g_ixor rfl ?_
            intro z27 h28 h29 h30
            refine g_iand rfl ?_
            intro z32 h33 h34 h35
            have h36 : z32 = clr (m.2.1 62 5) (beh (m.2.1 66) e (m.2.1 62 0)) := b_clr h23 h28 h33 (by omega) (by omega) (by omega) (by omega)
            have h37 := b_clr_rng (u := m.2.1 62 5) (r := (beh (m.2.1 66) e (m.2.1 62 0))) (by omega) (by omega) (by omega) (by omega)
            refine g_iAst (f := m.2.1 62) (m' := (kA m 62 (up (m.2.1 62) 5 z32))) rfl (kl_62 _) (by decide) (by omega) (by omega) (kA_62 _ _) ?_
            have hm38 : kI (kA m 62 (up (m.2.1 62) 5 z32)) := kI_U hm 62 rfl (show ((-2147483648) : Int) ≤ z32 by omega) (show z32 ≤ (2147483647 : Int) by omega)
            have hf39 : fr [] [62] m (kA m 62 (up (m.2.1 62) 5 z32)) := fr_A hf0 62 _ rfl
            refine g_aload_n (n := 0) rfl rfl ?_
            refine g_getf (v := vR 62) rfl (kl_61 _) rfl ?_
            refine g_iload_n (n := 1) rfl rfl ?_
            refine g_iconst rfl ?_
            refine g_iaddE (z := 2) (by decide) rfl ?_
            refine g_iload (n := 6) rfl rfl ?_
            refine g_iaddE (z := 3) (by decide) rfl ?_
            refine g_iload (n := 5) rfl rfl ?_
            refine g_if_eq (by omega) (by omega) rfl ?_ ?_
            · intro k40
              exfalso; omega
            · intro k41
              refine g_aload_n (n := 0) rfl rfl ?_
              refine g_getf (v := vR 62) rfl (kl_61 _) rfl ?_
              refine g_iload_n (n := 1) rfl rfl ?_
              refine g_iconst rfl ?_
              refine g_iaddE (z := 2) (by decide) rfl ?_
              refine g_iload (n := 6) rfl rfl ?_
              refine g_iaddE (z := 3) (by decide) rfl ?_
              refine g_ialE (f := up (m.2.1 62) 5 z32) (v := m.2.1 62 3) rfl (kl_62 _) (by decide) (by decide) (by decide) rfl ?_
              refine g_goto rfl ?_
              refine g_iAst (f := up (m.2.1 62) 5 z32) (m' := (kA (kA m 62 (up (m.2.1 62) 5 z32)) 62 (up (up (m.2.1 62) 5 z32) 3 (m.2.1 62 3)))) rfl (kl_62 _) (by decide) (by omega) (by omega) (kA_62 _ _) ?_
              have hm42 : kI (kA (kA m 62 (up (m.2.1 62) 5 z32)) 62 (up (up (m.2.1 62) 5 z32) 3 (m.2.1 62 3))) := kI_U hm38 62 rfl (show ((-2147483648) : Int) ≤ m.2.1 62 3 by omega) (show m.2.1 62 3 ≤ (2147483647 : Int) by omega)
              have hf43 : fr [] [62] m (kA (kA m 62 (up (m.2.1 62) 5 z32)) 62 (up (up (m.2.1 62) 5 z32) 3 (m.2.1 62 3))) := fr_A hf39 62 _ rfl
              refine g_aload_n (n := 0) rfl rfl ?_
              refine g_getf (v := vR 62) rfl (kl_61 _) rfl ?_
              refine g_iload_n (n := 1) rfl rfl ?_
              refine g_iconst rfl ?_
              refine g_iaddE (z := 2) (by decide) rfl ?_
              refine g_iload_n (n := 2) rfl rfl ?_
              refine g_iaddE (z := 2) (by decide) rfl ?_
              refine g_iconst rfl ?_
              refine g_iAst (f := up (up (m.2.1 62) 5 z32) 3 (m.2.1 62 3)) (m' := (kA (kA (kA m 62 (up (m.2.1 62) 5 z32)) 62 (up (up (m.2.1 62) 5 z32) 3 (m.2.1 62 3))) 62 (up (up (up (m.2.1 62) 5 z32) 3 (m.2.1 62 3)) 2 0))) rfl (kl_62 _) (by decide) (by omega) (by omega) (kA_62 _ _) ?_
              have hm44 : kI (kA (kA (kA m 62 (up (m.2.1 62) 5 z32)) 62 (up (up (m.2.1 62) 5 z32) 3 (m.2.1 62 3))) 62 (up (up (up (m.2.1 62) 5 z32) 3 (m.2.1 62 3)) 2 0)) := kI_U hm42 62 rfl (show ((-2147483648) : Int) ≤ 0 by omega) (show 0 ≤ (2147483647 : Int) by omega)
              have hf45 : fr [] [62] m (kA (kA (kA m 62 (up (m.2.1 62) 5 z32)) 62 (up (up (m.2.1 62) 5 z32) 3 (m.2.1 62 3))) 62 (up (up (up (m.2.1 62) 5 z32) 3 (m.2.1 62 3)) 2 0)) := fr_A hf43 62 _ rfl
              refine g_iconst rfl ?_
              refine g_zret rfl rfl (by omega) ?_
              refine ⟨_, _, rfl, hm44, hf45, Or.inl ⟨rfl, ?_⟩, (fun j hj => by show (up (up (up (m.2.1 62) 5 z32) 3 (m.2.1 62 3)) 2 0) j = m.2.1 62 j; rw [up_ne _ (by omega), up_ne _ (by omega), up_ne _ (by omega)])⟩
              show hand_0 (m.2.1 66) (m.2.1 62 0, m.2.1 62 1, m.2.1 62 2, m.2.1 62 3, m.2.1 62 4, m.2.1 62 5, m.2.1 62 6) e = some (m.2.1 62 0, m.2.1 62 1, 0, m.2.1 62 3, m.2.1 62 4, z32, m.2.1 62 6)
              simp only [h36]
              dsimp only [hand_0]
              repeat (split <;> try (exfalso; omega))
              all_goals first | rfl | omega
        · intro k46
          refine g_aload_n (n := 0) rfl rfl ?_
          refine g_getf (v := vR 62) rfl (kl_61 _) rfl ?_
          refine g_iload_n (n := 1) rfl rfl ?_
          refine g_iconst rfl ?_
          refine g_iaddE (z := 0) (by decide) rfl ?_
          refine g_iload (n := 6) rfl rfl ?_
          refine g_iaddE (z := 1) (by decide) rfl ?_
          refine g_ialE (f := m.2.1 62) (v := m.2.1 62 1) rfl (kl_62 _) (by decide) (by decide) (by decide) rfl ?_
          refine g_iload (n := 4) rfl rfl ?_
          refine g_icmp_ne (by omega) (by omega) (by omega) (by omega) rfl ?_ ?_
          · intro k47
            refine g_iconst rfl ?_
            refine g_zret rfl rfl (by omega) ?_
            refine ⟨_, _, rfl, hm, hf0, Or.inr ⟨rfl, ?_, rfl⟩, fun j hj => rfl⟩
            show hand_0 (m.2.1 66) (m.2.1 62 0, m.2.1 62 1, m.2.1 62 2, m.2.1 62 3, m.2.1 62 4, m.2.1 62 5, m.2.1 62 6) e = none
            dsimp only [hand_0]
            repeat (split <;> try (exfalso; omega))
            all_goals first | rfl | omega
          · intro k48
            refine g_aload_n (n := 0) rfl rfl ?_
            refine g_getf (v := vR 62) rfl (kl_61 _) rfl ?_
            refine g_iload_n (n := 1) rfl rfl ?_
            refine g_iconst rfl ?_
            refine g_iaddE (z := 2) (by decide) rfl ?_
            refine g_iload (n := 6) rfl rfl ?_
            refine g_iaddE (z := 3) (by decide) rfl ?_
            refine g_ialE (f := m.2.1 62) (v := m.2.1 62 3) rfl (kl_62 _) (by decide) (by decide) (by decide) rfl ?_
            refine g_if_eq (by omega) (by omega) rfl ?_ ?_
            · intro k49
              refine g_aload_n (n := 0) rfl rfl ?_
              refine g_getf (v := vR 62) rfl (kl_61 _) rfl ?_
              refine g_iload_n (n := 1) rfl rfl ?_
              refine g_iconst rfl ?_
              refine g_iaddE (z := 5) (by decide) rfl ?_
              refine g_dup2 rfl rfl rfl ?_
              refine g_ialE (f := m.2.1 62) (v := m.2.1 62 5) rfl (kl_62 _) (by decide) (by decide) (by decide) rfl ?_
              refine g_iload (n := 5) rfl rfl ?_
              refine g_if_eq (by omega) (by omega) rfl ?_ ?_
              · intro k50
                refine g_iconst rfl ?_
                refine g_iconst rfl ?_
                refine g_ixor rfl ?_
                intro z51 h52 h53 h54
                have h55 : z51 = (-1) := h52.trans (by decide)
                subst h55
                refine g_iand rfl ?_
                intro z56 h57 h58 h59
                have h60 : z56 = m.2.1 62 5 := b_andm1 h57 (by omega) (by omega)
                refine g_iAst (f := m.2.1 62) (m' := (kA m 62 (up (m.2.1 62) 5 z56))) rfl (kl_62 _) (by decide) (by omega) (by omega) (kA_62 _ _) ?_
                have hm61 : kI (kA m 62 (up (m.2.1 62) 5 z56)) := kI_U hm 62 rfl (show ((-2147483648) : Int) ≤ z56 by omega) (show z56 ≤ (2147483647 : Int) by omega)
                have hf62 : fr [] [62] m (kA m 62 (up (m.2.1 62) 5 z56)) := fr_A hf0 62 _ rfl
                refine g_aload_n (n := 0) rfl rfl ?_
                refine g_getf (v := vR 62) rfl (kl_61 _) rfl ?_
                refine g_iload_n (n := 1) rfl rfl ?_
                refine g_iconst rfl ?_
                refine g_iaddE (z := 2) (by decide) rfl ?_
                refine g_iload (n := 6) rfl rfl ?_
                refine g_iaddE (z := 3) (by decide) rfl ?_
                refine g_iload (n := 5) rfl rfl ?_
                refine g_if_eq (by omega) (by omega) rfl ?_ ?_
                · intro k63
                  refine g_iconst rfl ?_
                  refine g_iAst (f := up (m.2.1 62) 5 z56) (m' := (kA (kA m 62 (up (m.2.1 62) 5 z56)) 62 (up (up (m.2.1 62) 5 z56) 3 1))) rfl (kl_62 _) (by decide) (by omega) (by omega) (kA_62 _ _) ?_
                  have hm64 : kI (kA (kA m 62 (up (m.2.1 62) 5 z56)) 62 (up (up (m.2.1 62) 5 z56) 3 1)) := kI_U hm61 62 rfl (show ((-2147483648) : Int) ≤ 1 by omega) (show 1 ≤ (2147483647 : Int) by omega)
                  have hf65 : fr [] [62] m (kA (kA m 62 (up (m.2.1 62) 5 z56)) 62 (up (up (m.2.1 62) 5 z56) 3 1)) := fr_A hf62 62 _ rfl
                  refine g_aload_n (n := 0) rfl rfl ?_
                  refine g_getf (v := vR 62) rfl (kl_61 _) rfl ?_
                  refine g_iload_n (n := 1) rfl rfl ?_
                  refine g_iconst rfl ?_
                  refine g_iaddE (z := 2) (by decide) rfl ?_
                  refine g_iload_n (n := 2) rfl rfl ?_
                  refine g_iaddE (z := 2) (by decide) rfl ?_
                  refine g_iconst rfl ?_
                  refine g_iAst (f := up (up (m.2.1 62) 5 z56) 3 1) (m' := (kA (kA (kA m 62 (up (m.2.1 62) 5 z56)) 62 (up (up (m.2.1 62) 5 z56) 3 1)) 62 (up (up (up (m.2.1 62) 5 z56) 3 1) 2 0))) rfl (kl_62 _) (by decide) (by omega) (by omega) (kA_62 _ _) ?_
                  have hm66 : kI (kA (kA (kA m 62 (up (m.2.1 62) 5 z56)) 62 (up (up (m.2.1 62) 5 z56) 3 1)) 62 (up (up (up (m.2.1 62) 5 z56) 3 1) 2 0)) := kI_U hm64 62 rfl (show ((-2147483648) : Int) ≤ 0 by omega) (show 0 ≤ (2147483647 : Int) by omega)
                  have hf67 : fr [] [62] m (kA (kA (kA m 62 (up (m.2.1 62) 5 z56)) 62 (up (up (m.2.1 62) 5 z56) 3 1)) 62 (up (up (up (m.2.1 62) 5 z56) 3 1) 2 0)) := fr_A hf65 62 _ rfl
                  refine g_iconst rfl ?_
                  refine g_zret rfl rfl (by omega) ?_
                  refine ⟨_, _, rfl, hm66, hf67, Or.inl ⟨rfl, ?_⟩, (fun j hj => by show (up (up (up (m.2.1 62) 5 z56) 3 1) 2 0) j = m.2.1 62 j; rw [up_ne _ (by omega), up_ne _ (by omega), up_ne _ (by omega)])⟩
                  show hand_0 (m.2.1 66) (m.2.1 62 0, m.2.1 62 1, m.2.1 62 2, m.2.1 62 3, m.2.1 62 4, m.2.1 62 5, m.2.1 62 6) e = some (m.2.1 62 0, m.2.1 62 1, 0, 1, m.2.1 62 4, z56, m.2.1 62 6)
                  simp only [h60]
                  dsimp only [hand_0]
                  repeat (split <;> try (exfalso; omega))
                  all_goals first | rfl | omega
                · intro k68
                  exfalso; omega
              · intro k69
                exfalso; omega
            · intro k70
              refine g_iconst rfl ?_
              refine g_zret rfl rfl (by omega) ?_
              refine ⟨_, _, rfl, hm, hf0, Or.inr ⟨rfl, ?_, rfl⟩, fun j hj => rfl⟩
              show hand_0 (m.2.1 66) (m.2.1 62 0, m.2.1 62 1, m.2.1 62 2, m.2.1 62 3, m.2.1 62 4, m.2.1 62 5, m.2.1 62 6) e = none
              dsimp only [hand_0]
              repeat (split <;> try (exfalso; omega))
              all_goals first | rfl | omega
      · intro k71
        refine g_iconst rfl ?_
        refine g_zret rfl rfl (by omega) ?_
        refine ⟨_, _, rfl, hm, hf0, Or.inr ⟨rfl, ?_, rfl⟩, fun j hj => rfl⟩
        show hand_0 (m.2.1 66) (m.2.1 62 0, m.2.1 62 1, m.2.1 62 2, m.2.1 62 3, m.2.1 62 4, m.2.1 62 5, m.2.1 62 6) e = none
        dsimp only [hand_0]
        repeat (split <;> try (exfalso; omega))
        all_goals first | rfl | omega
theorem d_goS_0_0 {V : cg_V} {d q : Nat} (hd : 1 ≤ d) (hq : 24 ≤ q) {m : kM} (hm : kI m) {e : Int} (h_e : 0 ≤ e ∧ e ≤ 9) (hw : kw (kr0 (m.2.1 62))) : cg_S V d q mX10_goes [vR 61, vI 0, vI 0, vI e, vI 14] (kl m) (R_I (fun z m' => (kI m') ∧ (fr [] [62] m m') ∧ ((z = 1 ∧ goS_0 (m.2.1 66) (kr0 (m.2.1 62)) e = some (kr0 (m'.2.1 62))) ∨ (z = 0 ∧ goS_0 (m.2.1 66) (kr0 (m.2.1 62)) e = none ∧ (kr0 (m'.2.1 62)) = (kr0 (m.2.1 62)))) ∧ (∀ j : Int, (j < 0 ∨ 7 ≤ j) → m'.2.1 62 j = m.2.1 62 j))) := by
  have hf0 : fr [] [62] m m := fr_rf m
  refine cg_of (List.mem_of_getElem? (show ae_MT[149]? = some mX10_goes from rfl)) (Nat.le_of_ble_eq_true rfl) ?_
  show cg_G V mX10_goes d q _ 0 [(0, vR 61), (1, vI 0), (2, vI 0), (3, vI e), (4, vI 14)] [] (kl m) 0 0
  have w0 : 0 ≤ m.2.1 62 0 ∧ m.2.1 62 0 ≤ 5 := hw.1
  have w1 : 0 ≤ m.2.1 62 1 ∧ m.2.1 62 1 ≤ 5 := hw.2.1
  have w2 : 0 ≤ m.2.1 62 2 ∧ m.2.1 62 2 ≤ 2 := hw.2.2.1
  have w3 : 0 ≤ m.2.1 62 3 ∧ m.2.1 62 3 ≤ 2 := hw.2.2.2.1
  have w4 : (-1) ≤ m.2.1 62 4 ∧ m.2.1 62 4 ≤ 5 := hw.2.2.2.2.1
  have w5 : 0 ≤ m.2.1 62 5 ∧ m.2.1 62 5 ≤ 63 := hw.2.2.2.2.2.1
  have w6 : 0 ≤ m.2.1 62 6 ∧ m.2.1 62 6 ≤ 3 := hw.2.2.2.2.2.2.1
  have w7 : 0 ≤ m.2.1 62 4 ∨ m.2.1 62 2 = 2 ∨ m.2.1 62 3 = 2 := hw.2.2.2.2.2.2.2
  refine g_aload_n (n := 0) rfl rfl ?_
  refine g_getf (v := vR 62) rfl (kl_61 _) rfl ?_
  refine g_iload_n (n := 1) rfl rfl ?_
  refine g_iconst rfl ?_
  refine g_iaddE (z := 0) (by decide) rfl ?_
  refine g_iload_n (n := 2) rfl rfl ?_
  refine g_iaddE (z := 0) (by decide) rfl ?_
  refine g_ialE (f := m.2.1 62) (v := m.2.1 62 0) rfl (kl_62 _) (by decide) (by decide) (by decide) rfl ?_
  refine g_istore (n := 5) (lo' := [(0, vR 61), (1, vI 0), (2, vI 0), (3, vI e), (4, vI 14)]) rfl rfl ?_
  refine g_aload_n (n := 0) rfl rfl ?_
  refine g_iload_n (n := 3) rfl rfl ?_
  refine g_iload (n := 5) rfl rfl ?_
  refine c_vI (i := 61) (ps := [vI (m.2.1 62 0), vI e]) (r := []) (as := [vR 61, vI e, vI (m.2.1 62 0)]) (cs' := 0) (sl' := 0) rfl rfl rfl rfl rfl rfl (kl_61 _) (d_behind (d := d - 1) (q := q - (3 + 19)) (by omega) (by omega) hm (e := e) (r := m.2.1 62 0) (show 0 ≤ e ∧ e ≤ 9 by omega) (show (-2147483648) ≤ m.2.1 62 0 ∧ m.2.1 62 0 ≤ 2147483647 by omega)) (by omega) (show 3 + 19 ≤ q by omega) (Nat.le_of_ble_eq_true rfl) (Nat.le_of_ble_eq_true rfl) rfl rfl rfl ?_
  rintro z1 m2 ⟨rfl, p4, p5, p6⟩
  subst p4
  refine g_istore (n := 6) (lo' := [(5, vI (m.2.1 62 0)), (0, vR 61), (1, vI 0), (2, vI 0), (3, vI e), (4, vI 14)]) rfl rfl ?_
  refine g_iconst rfl ?_
  refine g_iload_n (n := 2) rfl rfl ?_
  refine g_isubE (z := 1) (by decide) rfl ?_
  refine g_istore (n := 7) (lo' := [(6, vI (beh (m.2.1 66) e (m.2.1 62 0))), (5, vI (m.2.1 62 0)), (0, vR 61), (1, vI 0), (2, vI 0), (3, vI e), (4, vI 14)]) rfl rfl ?_
  refine g_iload (n := 4) rfl rfl ?_
  refine g_bipush (by decide) rfl ?_
  refine g_icmp_ne (by decide) (by decide) (by decide) (by decide) rfl ?_ ?_
  · intro k7
    refine g_iconst rfl ?_
    refine g_istore (n := 8) (lo' := [(7, vI 1), (6, vI (beh (m.2.1 66) e (m.2.1 62 0))), (5, vI (m.2.1 62 0)), (0, vR 61), (1, vI 0), (2, vI 0), (3, vI e), (4, vI 14)]) rfl rfl ?_
    refine g_iload (n := 4) rfl rfl ?_
    refine g_bipush (by decide) rfl ?_
    refine g_icmp_ne (by decide) (by decide) (by decide) (by decide) rfl ?_ ?_
    · intro k8
      refine g_aload_n (n := 0) rfl rfl ?_
      refine g_getf (v := vR 62) rfl (kl_61 _) rfl ?_
      refine g_iload_n (n := 1) rfl rfl ?_
      refine g_iconst rfl ?_
      refine g_iaddE (z := 2) (by decide) rfl ?_
      refine g_iload_n (n := 2) rfl rfl ?_
      refine g_iaddE (z := 2) (by decide) rfl ?_
      refine g_ialE (f := m.2.1 62) (v := m.2.1 62 2) rfl (kl_62 _) (by decide) (by decide) (by decide) rfl ?_
      refine g_iconst rfl ?_
      refine g_icmp_ne (by omega) (by omega) (by decide) (by decide) rfl ?_ ?_
      · intro k9
        refine g_iconst rfl ?_
        refine g_istore (n := 9) (lo' := [(8, vI 0), (7, vI 1), (6, vI (beh (m.2.1 66) e (m.2.1 62 0))), (5, vI (m.2.1 62 0)), (0, vR 61), (1, vI 0), (2, vI 0), (3, vI e), (4, vI 14)]) rfl rfl ?_
        refine g_iload (n := 6) rfl rfl ?_
        refine g_iconst rfl ?_
        refine g_icmp_eq (by omega) (by omega) (by decide) (by decide) rfl ?_ ?_
        · intro k10
          refine g_iconst rfl ?_
          refine g_zret rfl rfl (by omega) ?_
          refine ⟨_, _, rfl, hm, hf0, Or.inr ⟨rfl, ?_, rfl⟩, fun j hj => rfl⟩
          show goS_0 (m.2.1 66) (m.2.1 62 0, m.2.1 62 1, m.2.1 62 2, m.2.1 62 3, m.2.1 62 4, m.2.1 62 5, m.2.1 62 6) e = none
          dsimp only [goS_0]
          repeat (split <;> try (exfalso; omega))
          all_goals first | rfl | omega
        · intro k11
          refine g_iload (n := 9) rfl rfl ?_
          refine g_if_eq (by decide) (by decide) rfl ?_ ?_
          · intro k12
            refine g_iconst rfl ?_
            refine g_zret rfl rfl (by omega) ?_
            refine ⟨_, _, rfl, hm, hf0, Or.inr ⟨rfl, ?_, rfl⟩, fun j hj => rfl⟩
            show goS_0 (m.2.1 66) (m.2.1 62 0, m.2.1 62 1, m.2.1 62 2, m.2.1 62 3, m.2.1 62 4, m.2.1 62 5, m.2.1 62 6) e = none
            dsimp only [goS_0]
            repeat (split <;> try (exfalso; omega))
            all_goals first | rfl | omega
          · intro k13
            exfalso; omega
      · intro k14
        refine g_iconst rfl ?_
        refine g_goto rfl ?_
        refine g_istore (n := 9) (lo' := [(8, vI 0), (7, vI 1), (6, vI (beh (m.2.1 66) e (m.2.1 62 0))), (5, vI (m.2.1 62 0)), (0, vR 61), (1, vI 0), (2, vI 0), (3, vI e), (4, vI 14)]) rfl rfl ?_
        refine g_iload (n := 6) rfl rfl ?_
        refine g_iconst rfl ?_
        refine g_icmp_eq (by omega) (by omega) (by decide) (by decide) rfl ?_ ?_
        · intro k15
          refine g_iconst rfl ?_
          refine g_zret rfl rfl (by omega) ?_
          refine ⟨_, _, rfl, hm, hf0, Or.inr ⟨rfl, ?_, rfl⟩, fun j hj => rfl⟩
          show goS_0 (m.2.1 66) (m.2.1 62 0, m.2.1 62 1, m.2.1 62 2, m.2.1 62 3, m.2.1 62 4, m.2.1 62 5, m.2.1 62 6) e = none
          dsimp only [goS_0]
          repeat (split <;> try (exfalso; omega))
          all_goals first | rfl | omega
        · intro k16
          refine g_iload (n := 9) rfl rfl ?_
          refine g_if_eq (by decide) (by decide) rfl ?_ ?_
          · intro k17
            exfalso; omega
          · intro k18
            refine g_iload (n := 8) rfl rfl ?_
            refine g_if_eq (by decide) (by decide) rfl ?_ ?_
            · intro k19
              refine g_aload_n (n := 0) rfl rfl ?_
              refine g_iload_n (n := 3) rfl rfl ?_
              refine g_iload (n := 5) rfl rfl ?_
              refine g_iload (n := 4) rfl rfl ?_
              refine g_iload (n := 8) rfl rfl ?_
              refine g_if_eq (by decide) (by decide) rfl ?_ ?_
              · intro k20
                refine g_iconst rfl ?_
                refine c_vI (i := 61) (ps := [vI 0, vI 14, vI (m.2.1 62 0), vI e]) (r := []) (as := [vR 61, vI e, vI (m.2.1 62 0), vI 14, vI 0]) (cs' := 0) (sl' := 0) rfl rfl rfl rfl rfl rfl (kl_61 _) (d_opens (d := d - 1) (q := q - (5 + 19)) (by omega) (by omega) hm (e := e) (r := m.2.1 62 0) (v := 14) (l := 0) (show 0 ≤ e ∧ e ≤ 9 by omega) (show (-2147483648) ≤ m.2.1 62 0 ∧ m.2.1 62 0 ≤ 2147483647 by omega) (show (-2147483648) ≤ 14 ∧ 14 ≤ 2147483647 by omega) (show 0 ≤ 0 ∧ 0 ≤ 1 by omega)) (by omega) (show 5 + 19 ≤ q by omega) (Nat.le_of_ble_eq_true rfl) (Nat.le_of_ble_eq_true rfl) rfl rfl rfl ?_
                rintro z21 m22 ⟨rfl, p24, p25⟩
                subst p24
                refine g_if_ne (by omega) (by omega) rfl ?_ ?_
                · intro k26
                  refine g_aload_n (n := 0) rfl rfl ?_
                  refine g_getf (v := vR 62) rfl (kl_61 _) rfl ?_
                  refine g_iload_n (n := 1) rfl rfl ?_
                  refine g_iconst rfl ?_
                  refine g_iaddE (z := 0) (by decide) rfl ?_
                  refine g_iload_n (n := 2) rfl rfl ?_
                  refine g_iaddE (z := 0) (by decide) rfl ?_
                  refine g_iload (n := 6) rfl rfl ?_
                  refine g_iAst (f := m.2.1 62) (m' := (kA m 62 (up (m.2.1 62) 0 (beh (m.2.1 66) e (m.2.1 62 0))))) rfl (kl_62 _) (by decide) (by omega) (by omega) (kA_62 _ _) ?_
                  have hm27 : kI (kA m 62 (up (m.2.1 62) 0 (beh (m.2.1 66) e (m.2.1 62 0)))) := kI_U hm 62 rfl (show ((-2147483648) : Int) ≤ (beh (m.2.1 66) e (m.2.1 62 0)) by omega) (show (beh (m.2.1 66) e (m.2.1 62 0)) ≤ (2147483647 : Int) by omega)
                  have hf28 : fr [] [62] m (kA m 62 (up (m.2.1 62) 0 (beh (m.2.1 66) e (m.2.1 62 0)))) := fr_A hf0 62 _ rfl
                  refine g_aload_n (n := 0) rfl rfl ?_
                  refine g_getf (v := vR 62) rfl (kl_61 _) rfl ?_
                  refine g_iload_n (n := 1) rfl rfl ?_
                  refine g_iconst rfl ?_
                  refine g_iaddE (z := 0) (by decide) rfl ?_
                  refine g_iload (n := 7) rfl rfl ?_
                  refine g_iaddE (z := 1) (by decide) rfl ?_
                  refine g_iload (n := 8) rfl rfl ?_
                  refine g_if_eq (by decide) (by decide) rfl ?_ ?_
                  · intro k29
                    refine g_aload_n (n := 0) rfl rfl ?_
                    refine g_getf (v := vR 62) rfl (kl_61 _) rfl ?_
                    refine g_iload_n (n := 1) rfl rfl ?_
                    refine g_iconst rfl ?_
                    refine g_iaddE (z := 0) (by decide) rfl ?_
                    refine g_iload (n := 7) rfl rfl ?_
                    refine g_iaddE (z := 1) (by decide) rfl ?_
                    refine g_ialE (f := up (m.2.1 62) 0 (beh (m.2.1 66) e (m.2.1 62 0))) (v := m.2.1 62 1) rfl (kl_62 _) (by decide) (by decide) (by decide) rfl ?_
                    refine g_iAst (f := up (m.2.1 62) 0 (beh (m.2.1 66) e (m.2.1 62 0))) (m' := (kA (kA m 62 (up (m.2.1 62) 0 (beh (m.2.1 66) e (m.2.1 62 0)))) 62 (up (up (m.2.1 62) 0 (beh (m.2.1 66) e (m.2.1 62 0))) 1 (m.2.1 62 1)))) rfl (kl_62 _) (by decide) (by omega) (by omega) (kA_62 _ _) ?_
                    have hm30 : kI (kA (kA m 62 (up (m.2.1 62) 0 (beh (m.2.1 66) e (m.2.1 62 0)))) 62 (up (up (m.2.1 62) 0 (beh (m.2.1 66) e (m.2.1 62 0))) 1 (m.2.1 62 1))) := kI_U hm27 62 rfl (show ((-2147483648) : Int) ≤ m.2.1 62 1 by omega) (show m.2.1 62 1 ≤ (2147483647 : Int) by omega)
                    have hf31 : fr [] [62] m (kA (kA m 62 (up (m.2.1 62) 0 (beh (m.2.1 66) e (m.2.1 62 0)))) 62 (up (up (m.2.1 62) 0 (beh (m.2.1 66) e (m.2.1 62 0))) 1 (m.2.1 62 1))) := fr_A hf28 62 _ rfl
                    refine g_aload_n (n := 0) rfl rfl ?_
                    refine g_getf (v := vR 62) rfl (kl_61 _) rfl ?_
                    refine g_iload_n (n := 1) rfl rfl ?_
                    refine g_bipush (by decide) rfl ?_
                    refine g_iaddE (z := 6) (by decide) rfl ?_
                    refine g_dup2 rfl rfl rfl ?_
                    refine g_ialE (f := up (up (m.2.1 62) 0 (beh (m.2.1 66) e (m.2.1 62 0))) 1 (m.2.1 62 1)) (v := m.2.1 62 6) rfl (kl_62 _) (by decide) (by decide) (by decide) rfl ?_
                    refine g_iload (n := 4) rfl rfl ?_
                    refine g_bipush (by decide) rfl ?_
                    refine g_icmp_ne (by decide) (by decide) (by decide) (by decide) rfl ?_ ?_
                    · intro k32
                      refine g_iconst rfl ?_
                      refine g_isubE (z := m.2.1 62 6) (by omega) rfl ?_
                      refine g_iAst (f := up (up (m.2.1 62) 0 (beh (m.2.1 66) e (m.2.1 62 0))) 1 (m.2.1 62 1)) (m' := (kA (kA (kA m 62 (up (m.2.1 62) 0 (beh (m.2.1 66) e (m.2.1 62 0)))) 62 (up (up (m.2.1 62) 0 (beh (m.2.1 66) e (m.2.1 62 0))) 1 (m.2.1 62 1))) 62 (up (up (up (m.2.1 62) 0 (beh (m.2.1 66) e (m.2.1 62 0))) 1 (m.2.1 62 1)) 6 (m.2.1 62 6)))) rfl (kl_62 _) (by decide) (by omega) (by omega) (kA_62 _ _) ?_
                      have hm33 : kI (kA (kA (kA m 62 (up (m.2.1 62) 0 (beh (m.2.1 66) e (m.2.1 62 0)))) 62 (up (up (m.2.1 62) 0 (beh (m.2.1 66) e (m.2.1 62 0))) 1 (m.2.1 62 1))) 62 (up (up (up (m.2.1 62) 0 (beh (m.2.1 66) e (m.2.1 62 0))) 1 (m.2.1 62 1)) 6 (m.2.1 62 6))) := kI_U hm30 62 rfl (show ((-2147483648) : Int) ≤ m.2.1 62 6 by omega) (show m.2.1 62 6 ≤ (2147483647 : Int) by omega)
                      have hf34 : fr [] [62] m (kA (kA (kA m 62 (up (m.2.1 62) 0 (beh (m.2.1 66) e (m.2.1 62 0)))) 62 (up (up (m.2.1 62) 0 (beh (m.2.1 66) e (m.2.1 62 0))) 1 (m.2.1 62 1))) 62 (up (up (up (m.2.1 62) 0 (beh (m.2.1 66) e (m.2.1 62 0))) 1 (m.2.1 62 1)) 6 (m.2.1 62 6))) := fr_A hf31 62 _ rfl
                      refine g_aload_n (n := 0) rfl rfl ?_
                      refine g_getf (v := vR 62) rfl (kl_61 _) rfl ?_
                      refine g_iload_n (n := 1) rfl rfl ?_
                      refine g_iconst rfl ?_
                      refine g_iaddE (z := 4) (by decide) rfl ?_
                      refine g_iload (n := 4) rfl rfl ?_
                      refine g_bipush (by decide) rfl ?_
                      refine g_icmp_ne (by decide) (by decide) (by decide) (by decide) rfl ?_ ?_
                      · intro k35
                        refine g_iload (n := 6) rfl rfl ?_
                        refine g_iAst (f := up (up (up (m.2.1 62) 0 (beh (m.2.1 66) e (m.2.1 62 0))) 1 (m.2.1 62 1)) 6 (m.2.1 62 6)) (m' := (kA (kA (kA (kA m 62 (up (m.2.1 62) 0 (beh (m.2.1 66) e (m.2.1 62 0)))) 62 (up (up (m.2.1 62) 0 (beh (m.2.1 66) e (m.2.1 62 0))) 1 (m.2.1 62 1))) 62 (up (up (up (m.2.1 62) 0 (beh (m.2.1 66) e (m.2.1 62 0))) 1 (m.2.1 62 1)) 6 (m.2.1 62 6))) 62 (up (up (up (up (m.2.1 62) 0 (beh (m.2.1 66) e (m.2.1 62 0))) 1 (m.2.1 62 1)) 6 (m.2.1 62 6)) 4 (beh (m.2.1 66) e (m.2.1 62 0))))) rfl (kl_62 _) (by decide) (by omega) (by omega) (kA_62 _ _) ?_
                        have hm36 : kI (kA (kA (kA (kA m 62 (up (m.2.1 62) 0 (beh (m.2.1 66) e (m.2.1 62 0)))) 62 (up (up (m.2.1 62) 0 (beh (m.2.1 66) e (m.2.1 62 0))) 1 (m.2.1 62 1))) 62 (up (up (up (m.2.1 62) 0 (beh (m.2.1 66) e (m.2.1 62 0))) 1 (m.2.1 62 1)) 6 (m.2.1 62 6))) 62 (up (up (up (up (m.2.1 62) 0 (beh (m.2.1 66) e (m.2.1 62 0))) 1 (m.2.1 62 1)) 6 (m.2.1 62 6)) 4 (beh (m.2.1 66) e (m.2.1 62 0)))) := kI_U hm33 62 rfl (show ((-2147483648) : Int) ≤ (beh (m.2.1 66) e (m.2.1 62 0)) by omega) (show (beh (m.2.1 66) e (m.2.1 62 0)) ≤ (2147483647 : Int) by omega)
                        have hf37 : fr [] [62] m (kA (kA (kA (kA m 62 (up (m.2.1 62) 0 (beh (m.2.1 66) e (m.2.1 62 0)))) 62 (up (up (m.2.1 62) 0 (beh (m.2.1 66) e (m.2.1 62 0))) 1 (m.2.1 62 1))) 62 (up (up (up (m.2.1 62) 0 (beh (m.2.1 66) e (m.2.1 62 0))) 1 (m.2.1 62 1)) 6 (m.2.1 62 6))) 62 (up (up (up (up (m.2.1 62) 0 (beh (m.2.1 66) e (m.2.1 62 0))) 1 (m.2.1 62 1)) 6 (m.2.1 62 6)) 4 (beh (m.2.1 66) e (m.2.1 62 0)))) := fr_A hf34 62 _ rfl
                        refine g_aload_n (n := 0) rfl rfl ?_
                        refine g_getf (v := vR 62) rfl (kl_61 _) rfl ?_
                        refine g_iload_n (n := 1) rfl rfl ?_
                        refine g_iconst rfl ?_
                        refine g_iaddE (z := 2) (by decide) rfl ?_
                        refine g_iload_n (n := 2) rfl rfl ?_
                        refine g_iaddE (z := 2) (by decide) rfl ?_
                        refine g_iconst rfl ?_
                        refine g_iAst (f := up (up (up (up (m.2.1 62) 0 (beh (m.2.1 66) e (m.2.1 62 0))) 1 (m.2.1 62 1)) 6 (m.2.1 62 6)) 4 (beh (m.2.1 66) e (m.2.1 62 0))) (m' := (kA (kA (kA (kA (kA m 62 (up (m.2.1 62) 0 (beh (m.2.1 66) e (m.2.1 62 0)))) 62 (up (up (m.2.1 62) 0 (beh (m.2.1 66) e (m.2.1 62 0))) 1 (m.2.1 62 1))) 62 (up (up (up (m.2.1 62) 0 (beh (m.2.1 66) e (m.2.1 62 0))) 1 (m.2.1 62 1)) 6 (m.2.1 62 6))) 62 (up (up (up (up (m.2.1 62) 0 (beh (m.2.1 66) e (m.2.1 62 0))) 1 (m.2.1 62 1)) 6 (m.2.1 62 6)) 4 (beh (m.2.1 66) e (m.2.1 62 0)))) 62 (up (up (up (up (up (m.2.1 62) 0 (beh (m.2.1 66) e (m.2.1 62 0))) 1 (m.2.1 62 1)) 6 (m.2.1 62 6)) 4 (beh (m.2.1 66) e (m.2.1 62 0))) 2 0))) rfl (kl_62 _) (by decide) (by omega) (by omega) (kA_62 _ _) ?_
                        have hm38 : kI (kA (kA (kA (kA (kA m 62 (up (m.2.1 62) 0 (beh (m.2.1 66) e (m.2.1 62 0)))) 62 (up (up (m.2.1 62) 0 (beh (m.2.1 66) e (m.2.1 62 0))) 1 (m.2.1 62 1))) 62 (up (up (up (m.2.1 62) 0 (beh (m.2.1 66) e (m.2.1 62 0))) 1 (m.2.1 62 1)) 6 (m.2.1 62 6))) 62 (up (up (up (up (m.2.1 62) 0 (beh (m.2.1 66) e (m.2.1 62 0))) 1 (m.2.1 62 1)) 6 (m.2.1 62 6)) 4 (beh (m.2.1 66) e (m.2.1 62 0)))) 62 (up (up (up (up (up (m.2.1 62) 0 (beh (m.2.1 66) e (m.2.1 62 0))) 1 (m.2.1 62 1)) 6 (m.2.1 62 6)) 4 (beh (m.2.1 66) e (m.2.1 62 0))) 2 0)) := kI_U hm36 62 rfl (show ((-2147483648) : Int) ≤ 0 by omega) (show 0 ≤ (2147483647 : Int) by omega)
                        have hf39 : fr [] [62] m (kA (kA (kA (kA (kA m 62 (up (m.2.1 62) 0 (beh (m.2.1 66) e (m.2.1 62 0)))) 62 (up (up (m.2.1 62) 0 (beh (m.2.1 66) e (m.2.1 62 0))) 1 (m.2.1 62 1))) 62 (up (up (up (m.2.1 62) 0 (beh (m.2.1 66) e (m.2.1 62 0))) 1 (m.2.1 62 1)) 6 (m.2.1 62 6))) 62 (up (up (up (up (m.2.1 62) 0 (beh (m.2.1 66) e (m.2.1 62 0))) 1 (m.2.1 62 1)) 6 (m.2.1 62 6)) 4 (beh (m.2.1 66) e (m.2.1 62 0)))) 62 (up (up (up (up (up (m.2.1 62) 0 (beh (m.2.1 66) e (m.2.1 62 0))) 1 (m.2.1 62 1)) 6 (m.2.1 62 6)) 4 (beh (m.2.1 66) e (m.2.1 62 0))) 2 0)) := fr_A hf37 62 _ rfl
                        refine g_iconst rfl ?_
                        refine g_zret rfl rfl (by omega) ?_
                        refine ⟨_, _, rfl, hm38, hf39, Or.inl ⟨rfl, ?_⟩, (fun j hj => by show (up (up (up (up (up (m.2.1 62) 0 (beh (m.2.1 66) e (m.2.1 62 0))) 1 (m.2.1 62 1)) 6 (m.2.1 62 6)) 4 (beh (m.2.1 66) e (m.2.1 62 0))) 2 0) j = m.2.1 62 j; rw [up_ne _ (by omega), up_ne _ (by omega), up_ne _ (by omega), up_ne _ (by omega), up_ne _ (by omega)])⟩
                        show goS_0 (m.2.1 66) (m.2.1 62 0, m.2.1 62 1, m.2.1 62 2, m.2.1 62 3, m.2.1 62 4, m.2.1 62 5, m.2.1 62 6) e = some ((beh (m.2.1 66) e (m.2.1 62 0)), m.2.1 62 1, 0, m.2.1 62 3, (beh (m.2.1 66) e (m.2.1 62 0)), m.2.1 62 5, m.2.1 62 6)
                        dsimp only [goS_0]
                        repeat (split <;> try (exfalso; omega))
                        all_goals first | rfl | omega
                      · intro k40
                        exfalso; omega
                    · intro k41
                      exfalso; omega
                  · intro k42
                    exfalso; omega
                · intro k43
                  refine g_iconst rfl ?_
                  refine g_zret rfl rfl (by omega) ?_
                  refine ⟨_, _, rfl, hm, hf0, Or.inr ⟨rfl, ?_, rfl⟩, fun j hj => rfl⟩
                  show goS_0 (m.2.1 66) (m.2.1 62 0, m.2.1 62 1, m.2.1 62 2, m.2.1 62 3, m.2.1 62 4, m.2.1 62 5, m.2.1 62 6) e = none
                  dsimp only [goS_0]
                  repeat (split <;> try (exfalso; omega))
                  all_goals first | rfl | omega
              · intro k44
                exfalso; omega
            · intro k45
              exfalso; omega
    · intro k46
      exfalso; omega
  · intro k47
    exfalso; omega
theorem d_goB_0_0 {V : cg_V} {d q : Nat} (hd : 1 ≤ d) (hq : 24 ≤ q) {m : kM} (hm : kI m) {e : Int} (h_e : 0 ≤ e ∧ e ≤ 9) (hw : kw (kr0 (m.2.1 62))) : cg_S V d q mX10_goes [vR 61, vI 0, vI 0, vI e, vI 24] (kl m) (R_I (fun z m' => (kI m') ∧ (fr [] [62] m m') ∧ ((z = 1 ∧ goB_0 (m.2.1 66) (kr0 (m.2.1 62)) e = some (kr0 (m'.2.1 62))) ∨ (z = 0 ∧ goB_0 (m.2.1 66) (kr0 (m.2.1 62)) e = none ∧ (kr0 (m'.2.1 62)) = (kr0 (m.2.1 62)))) ∧ (∀ j : Int, (j < 0 ∨ 7 ≤ j) → m'.2.1 62 j = m.2.1 62 j))) := by
  have hf0 : fr [] [62] m m := fr_rf m
  refine cg_of (List.mem_of_getElem? (show ae_MT[149]? = some mX10_goes from rfl)) (Nat.le_of_ble_eq_true rfl) ?_
  show cg_G V mX10_goes d q _ 0 [(0, vR 61), (1, vI 0), (2, vI 0), (3, vI e), (4, vI 24)] [] (kl m) 0 0
  have w0 : 0 ≤ m.2.1 62 0 ∧ m.2.1 62 0 ≤ 5 := hw.1
  have w1 : 0 ≤ m.2.1 62 1 ∧ m.2.1 62 1 ≤ 5 := hw.2.1
  have w2 : 0 ≤ m.2.1 62 2 ∧ m.2.1 62 2 ≤ 2 := hw.2.2.1
  have w3 : 0 ≤ m.2.1 62 3 ∧ m.2.1 62 3 ≤ 2 := hw.2.2.2.1
  have w4 : (-1) ≤ m.2.1 62 4 ∧ m.2.1 62 4 ≤ 5 := hw.2.2.2.2.1
  have w5 : 0 ≤ m.2.1 62 5 ∧ m.2.1 62 5 ≤ 63 := hw.2.2.2.2.2.1
  have w6 : 0 ≤ m.2.1 62 6 ∧ m.2.1 62 6 ≤ 3 := hw.2.2.2.2.2.2.1
  have w7 : 0 ≤ m.2.1 62 4 ∨ m.2.1 62 2 = 2 ∨ m.2.1 62 3 = 2 := hw.2.2.2.2.2.2.2
  refine g_aload_n (n := 0) rfl rfl ?_
  refine g_getf (v := vR 62) rfl (kl_61 _) rfl ?_
  refine g_iload_n (n := 1) rfl rfl ?_
  refine g_iconst rfl ?_
  refine g_iaddE (z := 0) (by decide) rfl ?_
  refine g_iload_n (n := 2) rfl rfl ?_
  refine g_iaddE (z := 0) (by decide) rfl ?_
  refine g_ialE (f := m.2.1 62) (v := m.2.1 62 0) rfl (kl_62 _) (by decide) (by decide) (by decide) rfl ?_
  refine g_istore (n := 5) (lo' := [(0, vR 61), (1, vI 0), (2, vI 0), (3, vI e), (4, vI 24)]) rfl rfl ?_
  refine g_aload_n (n := 0) rfl rfl ?_
  refine g_iload_n (n := 3) rfl rfl ?_
  refine g_iload (n := 5) rfl rfl ?_
  refine c_vI (i := 61) (ps := [vI (m.2.1 62 0), vI e]) (r := []) (as := [vR 61, vI e, vI (m.2.1 62 0)]) (cs' := 0) (sl' := 0) rfl rfl rfl rfl rfl rfl (kl_61 _) (d_behind (d := d - 1) (q := q - (3 + 19)) (by omega) (by omega) hm (e := e) (r := m.2.1 62 0) (show 0 ≤ e ∧ e ≤ 9 by omega) (show (-2147483648) ≤ m.2.1 62 0 ∧ m.2.1 62 0 ≤ 2147483647 by omega)) (by omega) (show 3 + 19 ≤ q by omega) (Nat.le_of_ble_eq_true rfl) (Nat.le_of_ble_eq_true rfl) rfl rfl rfl ?_
  rintro z1 m2 ⟨rfl, p4, p5, p6⟩
  subst p4
  refine g_istore (n := 6) (lo' := [(5, vI (m.2.1 62 0)), (0, vR 61), (1, vI 0), (2, vI 0), (3, vI e), (4, vI 24)]) rfl rfl ?_
  refine g_iconst rfl ?_
  refine g_iload_n (n := 2) rfl rfl ?_
  refine g_isubE (z := 1) (by decide) rfl ?_
  refine g_istore (n := 7) (lo' := [(6, vI (beh (m.2.1 66) e (m.2.1 62 0))), (5, vI (m.2.1 62 0)), (0, vR 61), (1, vI 0), (2, vI 0), (3, vI e), (4, vI 24)]) rfl rfl ?_
  refine g_iload (n := 4) rfl rfl ?_
  refine g_bipush (by decide) rfl ?_
  refine g_icmp_ne (by decide) (by decide) (by decide) (by decide) rfl ?_ ?_
  · intro k7
    exfalso; omega
  · intro k8
    refine g_iconst rfl ?_
    refine g_goto rfl ?_
    refine g_istore (n := 8) (lo' := [(7, vI 1), (6, vI (beh (m.2.1 66) e (m.2.1 62 0))), (5, vI (m.2.1 62 0)), (0, vR 61), (1, vI 0), (2, vI 0), (3, vI e), (4, vI 24)]) rfl rfl ?_
    refine g_iload (n := 4) rfl rfl ?_
    refine g_bipush (by decide) rfl ?_
    refine g_icmp_ne (by decide) (by decide) (by decide) (by decide) rfl ?_ ?_
    · intro k9
      refine g_aload_n (n := 0) rfl rfl ?_
      refine g_getf (v := vR 62) rfl (kl_61 _) rfl ?_
      refine g_iload_n (n := 1) rfl rfl ?_
      refine g_iconst rfl ?_
      refine g_iaddE (z := 2) (by decide) rfl ?_
      refine g_iload_n (n := 2) rfl rfl ?_
      refine g_iaddE (z := 2) (by decide) rfl ?_
      refine g_ialE (f := m.2.1 62) (v := m.2.1 62 2) rfl (kl_62 _) (by decide) (by decide) (by decide) rfl ?_
      refine g_iconst rfl ?_
      refine g_icmp_ne (by omega) (by omega) (by decide) (by decide) rfl ?_ ?_
      · intro k10
        refine g_iconst rfl ?_
        refine g_istore (n := 9) (lo' := [(8, vI 1), (7, vI 1), (6, vI (beh (m.2.1 66) e (m.2.1 62 0))), (5, vI (m.2.1 62 0)), (0, vR 61), (1, vI 0), (2, vI 0), (3, vI e), (4, vI 24)]) rfl rfl ?_
        refine g_iload (n := 6) rfl rfl ?_
        refine g_iconst rfl ?_
        refine g_icmp_eq (by omega) (by omega) (by decide) (by decide) rfl ?_ ?_
        · intro k11
          refine g_iconst rfl ?_
          refine g_zret rfl rfl (by omega) ?_
          refine ⟨_, _, rfl, hm, hf0, Or.inr ⟨rfl, ?_, rfl⟩, fun j hj => rfl⟩
          show goB_0 (m.2.1 66) (m.2.1 62 0, m.2.1 62 1, m.2.1 62 2, m.2.1 62 3, m.2.1 62 4, m.2.1 62 5, m.2.1 62 6) e = none
          dsimp only [goB_0]
          repeat (split <;> try (exfalso; omega))
          all_goals first | rfl | omega
        · intro k12
          refine g_iload (n := 9) rfl rfl ?_
          refine g_if_eq (by decide) (by decide) rfl ?_ ?_
          · intro k13
            refine g_iconst rfl ?_
            refine g_zret rfl rfl (by omega) ?_
            refine ⟨_, _, rfl, hm, hf0, Or.inr ⟨rfl, ?_, rfl⟩, fun j hj => rfl⟩
            show goB_0 (m.2.1 66) (m.2.1 62 0, m.2.1 62 1, m.2.1 62 2, m.2.1 62 3, m.2.1 62 4, m.2.1 62 5, m.2.1 62 6) e = none
            dsimp only [goB_0]
            repeat (split <;> try (exfalso; omega))
            all_goals first | rfl | omega
          · intro k14
            exfalso; omega
      · intro k15
        refine g_iconst rfl ?_
        refine g_goto rfl ?_
        refine g_istore (n := 9) (lo' := [(8, vI 1), (7, vI 1), (6, vI (beh (m.2.1 66) e (m.2.1 62 0))), (5, vI (m.2.1 62 0)), (0, vR 61), (1, vI 0), (2, vI 0), (3, vI e), (4, vI 24)]) rfl rfl ?_
        refine g_iload (n := 6) rfl rfl ?_
        refine g_iconst rfl ?_
        refine g_icmp_eq (by omega) (by omega) (by decide) (by decide) rfl ?_ ?_
        · intro k16
          refine g_iconst rfl ?_
          refine g_zret rfl rfl (by omega) ?_
          refine ⟨_, _, rfl, hm, hf0, Or.inr ⟨rfl, ?_, rfl⟩, fun j hj => rfl⟩
          show goB_0 (m.2.1 66) (m.2.1 62 0, m.2.1 62 1, m.2.1 62 2, m.2.1 62 3, m.2.1 62 4, m.2.1 62 5, m.2.1 62 6) e = none
          dsimp only [goB_0]
          repeat (split <;> try (exfalso; omega))
          all_goals first | rfl | omega
        · intro k17
          refine g_iload (n := 9) rfl rfl ?_
          refine g_if_eq (by decide) (by decide) rfl ?_ ?_
          · intro k18
            exfalso; omega
          · intro k19
            refine g_iload (n := 8) rfl rfl ?_
            refine g_if_eq (by decide) (by decide) rfl ?_ ?_
            · intro k20
              exfalso; omega
            · intro k21
              refine g_aload_n (n := 0) rfl rfl ?_
              refine g_getf (v := vR 62) rfl (kl_61 _) rfl ?_
              refine g_iload_n (n := 1) rfl rfl ?_
              refine g_iconst rfl ?_
              refine g_iaddE (z := 0) (by decide) rfl ?_
              refine g_iload (n := 7) rfl rfl ?_
              refine g_iaddE (z := 1) (by decide) rfl ?_
              refine g_ialE (f := m.2.1 62) (v := m.2.1 62 1) rfl (kl_62 _) (by decide) (by decide) (by decide) rfl ?_
              refine g_iload (n := 5) rfl rfl ?_
              refine g_icmp_ne (by omega) (by omega) (by omega) (by omega) rfl ?_ ?_
              · intro k22
                refine g_iconst rfl ?_
                refine g_zret rfl rfl (by omega) ?_
                refine ⟨_, _, rfl, hm, hf0, Or.inr ⟨rfl, ?_, rfl⟩, fun j hj => rfl⟩
                show goB_0 (m.2.1 66) (m.2.1 62 0, m.2.1 62 1, m.2.1 62 2, m.2.1 62 3, m.2.1 62 4, m.2.1 62 5, m.2.1 62 6) e = none
                dsimp only [goB_0]
                repeat (split <;> try (exfalso; omega))
                all_goals first | rfl | omega
              · intro k23
                refine g_aload_n (n := 0) rfl rfl ?_
                refine g_iload_n (n := 3) rfl rfl ?_
                refine g_iload (n := 5) rfl rfl ?_
                refine g_iload (n := 4) rfl rfl ?_
                refine g_iload (n := 8) rfl rfl ?_
                refine g_if_eq (by decide) (by decide) rfl ?_ ?_
                · intro k24
                  exfalso; omega
                · intro k25
                  refine g_aload_n (n := 0) rfl rfl ?_
                  refine g_getf (v := vR 62) rfl (kl_61 _) rfl ?_
                  refine g_iload_n (n := 1) rfl rfl ?_
                  refine g_iconst rfl ?_
                  refine g_iaddE (z := 2) (by decide) rfl ?_
                  refine g_iload (n := 7) rfl rfl ?_
                  refine g_iaddE (z := 3) (by decide) rfl ?_
                  refine g_ialE (f := m.2.1 62) (v := m.2.1 62 3) rfl (kl_62 _) (by decide) (by decide) (by decide) rfl ?_
                  refine g_iconst rfl ?_
                  refine g_icmp_ne (by omega) (by omega) (by decide) (by decide) rfl ?_ ?_
                  · intro k26
                    refine g_iconst rfl ?_
                    refine c_vI (i := 61) (ps := [vI 0, vI 24, vI (m.2.1 62 0), vI e]) (r := []) (as := [vR 61, vI e, vI (m.2.1 62 0), vI 24, vI 0]) (cs' := 0) (sl' := 0) rfl rfl rfl rfl rfl rfl (kl_61 _) (d_opens (d := d - 1) (q := q - (5 + 19)) (by omega) (by omega) hm (e := e) (r := m.2.1 62 0) (v := 24) (l := 0) (show 0 ≤ e ∧ e ≤ 9 by omega) (show (-2147483648) ≤ m.2.1 62 0 ∧ m.2.1 62 0 ≤ 2147483647 by omega) (show (-2147483648) ≤ 24 ∧ 24 ≤ 2147483647 by omega) (show 0 ≤ 0 ∧ 0 ≤ 1 by omega)) (by omega) (show 5 + 19 ≤ q by omega) (Nat.le_of_ble_eq_true rfl) (Nat.le_of_ble_eq_true rfl) rfl rfl rfl ?_
                    rintro z27 m28 ⟨rfl, p30, p31⟩
                    subst p30
                    refine g_if_ne (by omega) (by omega) rfl ?_ ?_
                    · intro k32
                      refine g_aload_n (n := 0) rfl rfl ?_
                      refine g_getf (v := vR 62) rfl (kl_61 _) rfl ?_
                      refine g_iload_n (n := 1) rfl rfl ?_
                      refine g_iconst rfl ?_
                      refine g_iaddE (z := 0) (by decide) rfl ?_
                      refine g_iload_n (n := 2) rfl rfl ?_
                      refine g_iaddE (z := 0) (by decide) rfl ?_
                      refine g_iload (n := 6) rfl rfl ?_
                      refine g_iAst (f := m.2.1 62) (m' := (kA m 62 (up (m.2.1 62) 0 (beh (m.2.1 66) e (m.2.1 62 0))))) rfl (kl_62 _) (by decide) (by omega) (by omega) (kA_62 _ _) ?_
                      have hm33 : kI (kA m 62 (up (m.2.1 62) 0 (beh (m.2.1 66) e (m.2.1 62 0)))) := kI_U hm 62 rfl (show ((-2147483648) : Int) ≤ (beh (m.2.1 66) e (m.2.1 62 0)) by omega) (show (beh (m.2.1 66) e (m.2.1 62 0)) ≤ (2147483647 : Int) by omega)
                      have hf34 : fr [] [62] m (kA m 62 (up (m.2.1 62) 0 (beh (m.2.1 66) e (m.2.1 62 0)))) := fr_A hf0 62 _ rfl
                      refine g_aload_n (n := 0) rfl rfl ?_
                      refine g_getf (v := vR 62) rfl (kl_61 _) rfl ?_
                      refine g_iload_n (n := 1) rfl rfl ?_
                      refine g_iconst rfl ?_
                      refine g_iaddE (z := 0) (by decide) rfl ?_
                      refine g_iload (n := 7) rfl rfl ?_
                      refine g_iaddE (z := 1) (by decide) rfl ?_
                      refine g_iload (n := 8) rfl rfl ?_
                      refine g_if_eq (by decide) (by decide) rfl ?_ ?_
                      · intro k35
                        exfalso; omega
                      · intro k36
                        refine g_iload (n := 6) rfl rfl ?_
                        refine g_goto rfl ?_
                        refine g_iAst (f := up (m.2.1 62) 0 (beh (m.2.1 66) e (m.2.1 62 0))) (m' := (kA (kA m 62 (up (m.2.1 62) 0 (beh (m.2.1 66) e (m.2.1 62 0)))) 62 (up (up (m.2.1 62) 0 (beh (m.2.1 66) e (m.2.1 62 0))) 1 (beh (m.2.1 66) e (m.2.1 62 0))))) rfl (kl_62 _) (by decide) (by omega) (by omega) (kA_62 _ _) ?_
                        have hm37 : kI (kA (kA m 62 (up (m.2.1 62) 0 (beh (m.2.1 66) e (m.2.1 62 0)))) 62 (up (up (m.2.1 62) 0 (beh (m.2.1 66) e (m.2.1 62 0))) 1 (beh (m.2.1 66) e (m.2.1 62 0)))) := kI_U hm33 62 rfl (show ((-2147483648) : Int) ≤ (beh (m.2.1 66) e (m.2.1 62 0)) by omega) (show (beh (m.2.1 66) e (m.2.1 62 0)) ≤ (2147483647 : Int) by omega)
                        have hf38 : fr [] [62] m (kA (kA m 62 (up (m.2.1 62) 0 (beh (m.2.1 66) e (m.2.1 62 0)))) 62 (up (up (m.2.1 62) 0 (beh (m.2.1 66) e (m.2.1 62 0))) 1 (beh (m.2.1 66) e (m.2.1 62 0)))) := fr_A hf34 62 _ rfl
                        refine g_aload_n (n := 0) rfl rfl ?_
                        refine g_getf (v := vR 62) rfl (kl_61 _) rfl ?_
                        refine g_iload_n (n := 1) rfl rfl ?_
                        refine g_bipush (by decide) rfl ?_
                        refine g_iaddE (z := 6) (by decide) rfl ?_
                        refine g_dup2 rfl rfl rfl ?_
                        refine g_ialE (f := up (up (m.2.1 62) 0 (beh (m.2.1 66) e (m.2.1 62 0))) 1 (beh (m.2.1 66) e (m.2.1 62 0))) (v := m.2.1 62 6) rfl (kl_62 _) (by decide) (by decide) (by decide) rfl ?_
                        refine g_iload (n := 4) rfl rfl ?_
                        refine g_bipush (by decide) rfl ?_
                        refine g_icmp_ne (by decide) (by decide) (by decide) (by decide) rfl ?_ ?_
                        · intro k39
                          refine g_iconst rfl ?_
                          refine g_isubE (z := m.2.1 62 6) (by omega) rfl ?_
                          refine g_iAst (f := up (up (m.2.1 62) 0 (beh (m.2.1 66) e (m.2.1 62 0))) 1 (beh (m.2.1 66) e (m.2.1 62 0))) (m' := (kA (kA (kA m 62 (up (m.2.1 62) 0 (beh (m.2.1 66) e (m.2.1 62 0)))) 62 (up (up (m.2.1 62) 0 (beh (m.2.1 66) e (m.2.1 62 0))) 1 (beh (m.2.1 66) e (m.2.1 62 0)))) 62 (up (up (up (m.2.1 62) 0 (beh (m.2.1 66) e (m.2.1 62 0))) 1 (beh (m.2.1 66) e (m.2.1 62 0))) 6 (m.2.1 62 6)))) rfl (kl_62 _) (by decide) (by omega) (by omega) (kA_62 _ _) ?_
                          have hm40 : kI (kA (kA (kA m 62 (up (m.2.1 62) 0 (beh (m.2.1 66) e (m.2.1 62 0)))) 62 (up (up (m.2.1 62) 0 (beh (m.2.1 66) e (m.2.1 62 0))) 1 (beh (m.2.1 66) e (m.2.1 62 0)))) 62 (up (up (up (m.2.1 62) 0 (beh (m.2.1 66) e (m.2.1 62 0))) 1 (beh (m.2.1 66) e (m.2.1 62 0))) 6 (m.2.1 62 6))) := kI_U hm37 62 rfl (show ((-2147483648) : Int) ≤ m.2.1 62 6 by omega) (show m.2.1 62 6 ≤ (2147483647 : Int) by omega)
                          have hf41 : fr [] [62] m (kA (kA (kA m 62 (up (m.2.1 62) 0 (beh (m.2.1 66) e (m.2.1 62 0)))) 62 (up (up (m.2.1 62) 0 (beh (m.2.1 66) e (m.2.1 62 0))) 1 (beh (m.2.1 66) e (m.2.1 62 0)))) 62 (up (up (up (m.2.1 62) 0 (beh (m.2.1 66) e (m.2.1 62 0))) 1 (beh (m.2.1 66) e (m.2.1 62 0))) 6 (m.2.1 62 6))) := fr_A hf38 62 _ rfl
                          refine g_aload_n (n := 0) rfl rfl ?_
                          refine g_getf (v := vR 62) rfl (kl_61 _) rfl ?_
                          refine g_iload_n (n := 1) rfl rfl ?_
                          refine g_iconst rfl ?_
                          refine g_iaddE (z := 4) (by decide) rfl ?_
                          refine g_iload (n := 4) rfl rfl ?_
                          refine g_bipush (by decide) rfl ?_
                          refine g_icmp_ne (by decide) (by decide) (by decide) (by decide) rfl ?_ ?_
                          · intro k42
                            refine g_iload (n := 6) rfl rfl ?_
                            refine g_iAst (f := up (up (up (m.2.1 62) 0 (beh (m.2.1 66) e (m.2.1 62 0))) 1 (beh (m.2.1 66) e (m.2.1 62 0))) 6 (m.2.1 62 6)) (m' := (kA (kA (kA (kA m 62 (up (m.2.1 62) 0 (beh (m.2.1 66) e (m.2.1 62 0)))) 62 (up (up (m.2.1 62) 0 (beh (m.2.1 66) e (m.2.1 62 0))) 1 (beh (m.2.1 66) e (m.2.1 62 0)))) 62 (up (up (up (m.2.1 62) 0 (beh (m.2.1 66) e (m.2.1 62 0))) 1 (beh (m.2.1 66) e (m.2.1 62 0))) 6 (m.2.1 62 6))) 62 (up (up (up (up (m.2.1 62) 0 (beh (m.2.1 66) e (m.2.1 62 0))) 1 (beh (m.2.1 66) e (m.2.1 62 0))) 6 (m.2.1 62 6)) 4 (beh (m.2.1 66) e (m.2.1 62 0))))) rfl (kl_62 _) (by decide) (by omega) (by omega) (kA_62 _ _) ?_
                            have hm43 : kI (kA (kA (kA (kA m 62 (up (m.2.1 62) 0 (beh (m.2.1 66) e (m.2.1 62 0)))) 62 (up (up (m.2.1 62) 0 (beh (m.2.1 66) e (m.2.1 62 0))) 1 (beh (m.2.1 66) e (m.2.1 62 0)))) 62 (up (up (up (m.2.1 62) 0 (beh (m.2.1 66) e (m.2.1 62 0))) 1 (beh (m.2.1 66) e (m.2.1 62 0))) 6 (m.2.1 62 6))) 62 (up (up (up (up (m.2.1 62) 0 (beh (m.2.1 66) e (m.2.1 62 0))) 1 (beh (m.2.1 66) e (m.2.1 62 0))) 6 (m.2.1 62 6)) 4 (beh (m.2.1 66) e (m.2.1 62 0)))) := kI_U hm40 62 rfl (show ((-2147483648) : Int) ≤ (beh (m.2.1 66) e (m.2.1 62 0)) by omega) (show (beh (m.2.1 66) e (m.2.1 62 0)) ≤ (2147483647 : Int) by omega)
                            have hf44 : fr [] [62] m (kA (kA (kA (kA m 62 (up (m.2.1 62) 0 (beh (m.2.1 66) e (m.2.1 62 0)))) 62 (up (up (m.2.1 62) 0 (beh (m.2.1 66) e (m.2.1 62 0))) 1 (beh (m.2.1 66) e (m.2.1 62 0)))) 62 (up (up (up (m.2.1 62) 0 (beh (m.2.1 66) e (m.2.1 62 0))) 1 (beh (m.2.1 66) e (m.2.1 62 0))) 6 (m.2.1 62 6))) 62 (up (up (up (up (m.2.1 62) 0 (beh (m.2.1 66) e (m.2.1 62 0))) 1 (beh (m.2.1 66) e (m.2.1 62 0))) 6 (m.2.1 62 6)) 4 (beh (m.2.1 66) e (m.2.1 62 0)))) := fr_A hf41 62 _ rfl
                            refine g_aload_n (n := 0) rfl rfl ?_
                            refine g_getf (v := vR 62) rfl (kl_61 _) rfl ?_
                            refine g_iload_n (n := 1) rfl rfl ?_
                            refine g_iconst rfl ?_
                            refine g_iaddE (z := 2) (by decide) rfl ?_
                            refine g_iload_n (n := 2) rfl rfl ?_
                            refine g_iaddE (z := 2) (by decide) rfl ?_
                            refine g_iconst rfl ?_
                            refine g_iAst (f := up (up (up (up (m.2.1 62) 0 (beh (m.2.1 66) e (m.2.1 62 0))) 1 (beh (m.2.1 66) e (m.2.1 62 0))) 6 (m.2.1 62 6)) 4 (beh (m.2.1 66) e (m.2.1 62 0))) (m' := (kA (kA (kA (kA (kA m 62 (up (m.2.1 62) 0 (beh (m.2.1 66) e (m.2.1 62 0)))) 62 (up (up (m.2.1 62) 0 (beh (m.2.1 66) e (m.2.1 62 0))) 1 (beh (m.2.1 66) e (m.2.1 62 0)))) 62 (up (up (up (m.2.1 62) 0 (beh (m.2.1 66) e (m.2.1 62 0))) 1 (beh (m.2.1 66) e (m.2.1 62 0))) 6 (m.2.1 62 6))) 62 (up (up (up (up (m.2.1 62) 0 (beh (m.2.1 66) e (m.2.1 62 0))) 1 (beh (m.2.1 66) e (m.2.1 62 0))) 6 (m.2.1 62 6)) 4 (beh (m.2.1 66) e (m.2.1 62 0)))) 62 (up (up (up (up (up (m.2.1 62) 0 (beh (m.2.1 66) e (m.2.1 62 0))) 1 (beh (m.2.1 66) e (m.2.1 62 0))) 6 (m.2.1 62 6)) 4 (beh (m.2.1 66) e (m.2.1 62 0))) 2 0))) rfl (kl_62 _) (by decide) (by omega) (by omega) (kA_62 _ _) ?_
                            have hm45 : kI (kA (kA (kA (kA (kA m 62 (up (m.2.1 62) 0 (beh (m.2.1 66) e (m.2.1 62 0)))) 62 (up (up (m.2.1 62) 0 (beh (m.2.1 66) e (m.2.1 62 0))) 1 (beh (m.2.1 66) e (m.2.1 62 0)))) 62 (up (up (up (m.2.1 62) 0 (beh (m.2.1 66) e (m.2.1 62 0))) 1 (beh (m.2.1 66) e (m.2.1 62 0))) 6 (m.2.1 62 6))) 62 (up (up (up (up (m.2.1 62) 0 (beh (m.2.1 66) e (m.2.1 62 0))) 1 (beh (m.2.1 66) e (m.2.1 62 0))) 6 (m.2.1 62 6)) 4 (beh (m.2.1 66) e (m.2.1 62 0)))) 62 (up (up (up (up (up (m.2.1 62) 0 (beh (m.2.1 66) e (m.2.1 62 0))) 1 (beh (m.2.1 66) e (m.2.1 62 0))) 6 (m.2.1 62 6)) 4 (beh (m.2.1 66) e (m.2.1 62 0))) 2 0)) := kI_U hm43 62 rfl (show ((-2147483648) : Int) ≤ 0 by omega) (show 0 ≤ (2147483647 : Int) by omega)
                            have hf46 : fr [] [62] m (kA (kA (kA (kA (kA m 62 (up (m.2.1 62) 0 (beh (m.2.1 66) e (m.2.1 62 0)))) 62 (up (up (m.2.1 62) 0 (beh (m.2.1 66) e (m.2.1 62 0))) 1 (beh (m.2.1 66) e (m.2.1 62 0)))) 62 (up (up (up (m.2.1 62) 0 (beh (m.2.1 66) e (m.2.1 62 0))) 1 (beh (m.2.1 66) e (m.2.1 62 0))) 6 (m.2.1 62 6))) 62 (up (up (up (up (m.2.1 62) 0 (beh (m.2.1 66) e (m.2.1 62 0))) 1 (beh (m.2.1 66) e (m.2.1 62 0))) 6 (m.2.1 62 6)) 4 (beh (m.2.1 66) e (m.2.1 62 0)))) 62 (up (up (up (up (up (m.2.1 62) 0 (beh (m.2.1 66) e (m.2.1 62 0))) 1 (beh (m.2.1 66) e (m.2.1 62 0))) 6 (m.2.1 62 6)) 4 (beh (m.2.1 66) e (m.2.1 62 0))) 2 0)) := fr_A hf44 62 _ rfl
                            refine g_iconst rfl ?_
                            refine g_zret rfl rfl (by omega) ?_
                            refine ⟨_, _, rfl, hm45, hf46, Or.inl ⟨rfl, ?_⟩, (fun j hj => by show (up (up (up (up (up (m.2.1 62) 0 (beh (m.2.1 66) e (m.2.1 62 0))) 1 (beh (m.2.1 66) e (m.2.1 62 0))) 6 (m.2.1 62 6)) 4 (beh (m.2.1 66) e (m.2.1 62 0))) 2 0) j = m.2.1 62 j; rw [up_ne _ (by omega), up_ne _ (by omega), up_ne _ (by omega), up_ne _ (by omega), up_ne _ (by omega)])⟩
                            show goB_0 (m.2.1 66) (m.2.1 62 0, m.2.1 62 1, m.2.1 62 2, m.2.1 62 3, m.2.1 62 4, m.2.1 62 5, m.2.1 62 6) e = some ((beh (m.2.1 66) e (m.2.1 62 0)), (beh (m.2.1 66) e (m.2.1 62 0)), 0, m.2.1 62 3, (beh (m.2.1 66) e (m.2.1 62 0)), m.2.1 62 5, m.2.1 62 6)
                            dsimp only [goB_0]
                            repeat (split <;> try (exfalso; omega))
                            all_goals first | rfl | omega
                          · intro k47
                            exfalso; omega
                        · intro k48
                          exfalso; omega
                    · intro k49
                      refine g_iconst rfl ?_
                      refine g_zret rfl rfl (by omega) ?_
                      refine ⟨_, _, rfl, hm, hf0, Or.inr ⟨rfl, ?_, rfl⟩, fun j hj => rfl⟩
                      show goB_0 (m.2.1 66) (m.2.1 62 0, m.2.1 62 1, m.2.1 62 2, m.2.1 62 3, m.2.1 62 4, m.2.1 62 5, m.2.1 62 6) e = none
                      dsimp only [goB_0]
                      repeat (split <;> try (exfalso; omega))
                      all_goals first | rfl | omega
                  · intro k50
                    refine g_iconst rfl ?_
                    refine g_goto rfl ?_
                    refine c_vI (i := 61) (ps := [vI 1, vI 24, vI (m.2.1 62 0), vI e]) (r := []) (as := [vR 61, vI e, vI (m.2.1 62 0), vI 24, vI 1]) (cs' := 0) (sl' := 0) rfl rfl rfl rfl rfl rfl (kl_61 _) (d_opens (d := d - 1) (q := q - (5 + 19)) (by omega) (by omega) hm (e := e) (r := m.2.1 62 0) (v := 24) (l := 1) (show 0 ≤ e ∧ e ≤ 9 by omega) (show (-2147483648) ≤ m.2.1 62 0 ∧ m.2.1 62 0 ≤ 2147483647 by omega) (show (-2147483648) ≤ 24 ∧ 24 ≤ 2147483647 by omega) (show 0 ≤ 1 ∧ 1 ≤ 1 by omega)) (by omega) (show 5 + 19 ≤ q by omega) (Nat.le_of_ble_eq_true rfl) (Nat.le_of_ble_eq_true rfl) rfl rfl rfl ?_
                    rintro z51 m52 ⟨rfl, p54, p55⟩
                    subst p54
                    refine g_if_ne (by omega) (by omega) rfl ?_ ?_
                    · intro k56
                      refine g_aload_n (n := 0) rfl rfl ?_
                      refine g_getf (v := vR 62) rfl (kl_61 _) rfl ?_
                      refine g_iload_n (n := 1) rfl rfl ?_
                      refine g_iconst rfl ?_
                      refine g_iaddE (z := 0) (by decide) rfl ?_
                      refine g_iload_n (n := 2) rfl rfl ?_
                      refine g_iaddE (z := 0) (by decide) rfl ?_
                      refine g_iload (n := 6) rfl rfl ?_
                      refine g_iAst (f := m.2.1 62) (m' := (kA m 62 (up (m.2.1 62) 0 (beh (m.2.1 66) e (m.2.1 62 0))))) rfl (kl_62 _) (by decide) (by omega) (by omega) (kA_62 _ _) ?_
                      have hm57 : kI (kA m 62 (up (m.2.1 62) 0 (beh (m.2.1 66) e (m.2.1 62 0)))) := kI_U hm 62 rfl (show ((-2147483648) : Int) ≤ (beh (m.2.1 66) e (m.2.1 62 0)) by omega) (show (beh (m.2.1 66) e (m.2.1 62 0)) ≤ (2147483647 : Int) by omega)
                      have hf58 : fr [] [62] m (kA m 62 (up (m.2.1 62) 0 (beh (m.2.1 66) e (m.2.1 62 0)))) := fr_A hf0 62 _ rfl
                      refine g_aload_n (n := 0) rfl rfl ?_
                      refine g_getf (v := vR 62) rfl (kl_61 _) rfl ?_
                      refine g_iload_n (n := 1) rfl rfl ?_
                      refine g_iconst rfl ?_
                      refine g_iaddE (z := 0) (by decide) rfl ?_
                      refine g_iload (n := 7) rfl rfl ?_
                      refine g_iaddE (z := 1) (by decide) rfl ?_
                      refine g_iload (n := 8) rfl rfl ?_
                      refine g_if_eq (by decide) (by decide) rfl ?_ ?_
                      · intro k59
                        exfalso; omega
                      · intro k60
                        refine g_iload (n := 6) rfl rfl ?_
                        refine g_goto rfl ?_
                        refine g_iAst (f := up (m.2.1 62) 0 (beh (m.2.1 66) e (m.2.1 62 0))) (m' := (kA (kA m 62 (up (m.2.1 62) 0 (beh (m.2.1 66) e (m.2.1 62 0)))) 62 (up (up (m.2.1 62) 0 (beh (m.2.1 66) e (m.2.1 62 0))) 1 (beh (m.2.1 66) e (m.2.1 62 0))))) rfl (kl_62 _) (by decide) (by omega) (by omega) (kA_62 _ _) ?_
                        have hm61 : kI (kA (kA m 62 (up (m.2.1 62) 0 (beh (m.2.1 66) e (m.2.1 62 0)))) 62 (up (up (m.2.1 62) 0 (beh (m.2.1 66) e (m.2.1 62 0))) 1 (beh (m.2.1 66) e (m.2.1 62 0)))) := kI_U hm57 62 rfl (show ((-2147483648) : Int) ≤ (beh (m.2.1 66) e (m.2.1 62 0)) by omega) (show (beh (m.2.1 66) e (m.2.1 62 0)) ≤ (2147483647 : Int) by omega)
                        have hf62 : fr [] [62] m (kA (kA m 62 (up (m.2.1 62) 0 (beh (m.2.1 66) e (m.2.1 62 0)))) 62 (up (up (m.2.1 62) 0 (beh (m.2.1 66) e (m.2.1 62 0))) 1 (beh (m.2.1 66) e (m.2.1 62 0)))) := fr_A hf58 62 _ rfl
                        refine g_aload_n (n := 0) rfl rfl ?_
                        refine g_getf (v := vR 62) rfl (kl_61 _) rfl ?_
                        refine g_iload_n (n := 1) rfl rfl ?_
                        refine g_bipush (by decide) rfl ?_
                        refine g_iaddE (z := 6) (by decide) rfl ?_
                        refine g_dup2 rfl rfl rfl ?_
                        refine g_ialE (f := up (up (m.2.1 62) 0 (beh (m.2.1 66) e (m.2.1 62 0))) 1 (beh (m.2.1 66) e (m.2.1 62 0))) (v := m.2.1 62 6) rfl (kl_62 _) (by decide) (by decide) (by decide) rfl ?_
                        refine g_iload (n := 4) rfl rfl ?_
                        refine g_bipush (by decide) rfl ?_
                        refine g_icmp_ne (by decide) (by decide) (by decide) (by decide) rfl ?_ ?_
                        · intro k63
                          refine g_iconst rfl ?_
                          refine g_isubE (z := m.2.1 62 6) (by omega) rfl ?_
                          refine g_iAst (f := up (up (m.2.1 62) 0 (beh (m.2.1 66) e (m.2.1 62 0))) 1 (beh (m.2.1 66) e (m.2.1 62 0))) (m' := (kA (kA (kA m 62 (up (m.2.1 62) 0 (beh (m.2.1 66) e (m.2.1 62 0)))) 62 (up (up (m.2.1 62) 0 (beh (m.2.1 66) e (m.2.1 62 0))) 1 (beh (m.2.1 66) e (m.2.1 62 0)))) 62 (up (up (up (m.2.1 62) 0 (beh (m.2.1 66) e (m.2.1 62 0))) 1 (beh (m.2.1 66) e (m.2.1 62 0))) 6 (m.2.1 62 6)))) rfl (kl_62 _) (by decide) (by omega) (by omega) (kA_62 _ _) ?_
                          have hm64 : kI (kA (kA (kA m 62 (up (m.2.1 62) 0 (beh (m.2.1 66) e (m.2.1 62 0)))) 62 (up (up (m.2.1 62) 0 (beh (m.2.1 66) e (m.2.1 62 0))) 1 (beh (m.2.1 66) e (m.2.1 62 0)))) 62 (up (up (up (m.2.1 62) 0 (beh (m.2.1 66) e (m.2.1 62 0))) 1 (beh (m.2.1 66) e (m.2.1 62 0))) 6 (m.2.1 62 6))) := kI_U hm61 62 rfl (show ((-2147483648) : Int) ≤ m.2.1 62 6 by omega) (show m.2.1 62 6 ≤ (2147483647 : Int) by omega)
                          have hf65 : fr [] [62] m (kA (kA (kA m 62 (up (m.2.1 62) 0 (beh (m.2.1 66) e (m.2.1 62 0)))) 62 (up (up (m.2.1 62) 0 (beh (m.2.1 66) e (m.2.1 62 0))) 1 (beh (m.2.1 66) e (m.2.1 62 0)))) 62 (up (up (up (m.2.1 62) 0 (beh (m.2.1 66) e (m.2.1 62 0))) 1 (beh (m.2.1 66) e (m.2.1 62 0))) 6 (m.2.1 62 6))) := fr_A hf62 62 _ rfl
                          refine g_aload_n (n := 0) rfl rfl ?_
                          refine g_getf (v := vR 62) rfl (kl_61 _) rfl ?_
                          refine g_iload_n (n := 1) rfl rfl ?_
                          refine g_iconst rfl ?_
                          refine g_iaddE (z := 4) (by decide) rfl ?_
                          refine g_iload (n := 4) rfl rfl ?_
                          refine g_bipush (by decide) rfl ?_
                          refine g_icmp_ne (by decide) (by decide) (by decide) (by decide) rfl ?_ ?_
                          · intro k66
                            refine g_iload (n := 6) rfl rfl ?_
                            refine g_iAst (f := up (up (up (m.2.1 62) 0 (beh (m.2.1 66) e (m.2.1 62 0))) 1 (beh (m.2.1 66) e (m.2.1 62 0))) 6 (m.2.1 62 6)) (m' := (kA (kA (kA (kA m 62 (up (m.2.1 62) 0 (beh (m.2.1 66) e (m.2.1 62 0)))) 62 (up (up (m.2.1 62) 0 (beh (m.2.1 66) e (m.2.1 62 0))) 1 (beh (m.2.1 66) e (m.2.1 62 0)))) 62 (up (up (up (m.2.1 62) 0 (beh (m.2.1 66) e (m.2.1 62 0))) 1 (beh (m.2.1 66) e (m.2.1 62 0))) 6 (m.2.1 62 6))) 62 (up (up (up (up (m.2.1 62) 0 (beh (m.2.1 66) e (m.2.1 62 0))) 1 (beh (m.2.1 66) e (m.2.1 62 0))) 6 (m.2.1 62 6)) 4 (beh (m.2.1 66) e (m.2.1 62 0))))) rfl (kl_62 _) (by decide) (by omega) (by omega) (kA_62 _ _) ?_
                            have hm67 : kI (kA (kA (kA (kA m 62 (up (m.2.1 62) 0 (beh (m.2.1 66) e (m.2.1 62 0)))) 62 (up (up (m.2.1 62) 0 (beh (m.2.1 66) e (m.2.1 62 0))) 1 (beh (m.2.1 66) e (m.2.1 62 0)))) 62 (up (up (up (m.2.1 62) 0 (beh (m.2.1 66) e (m.2.1 62 0))) 1 (beh (m.2.1 66) e (m.2.1 62 0))) 6 (m.2.1 62 6))) 62 (up (up (up (up (m.2.1 62) 0 (beh (m.2.1 66) e (m.2.1 62 0))) 1 (beh (m.2.1 66) e (m.2.1 62 0))) 6 (m.2.1 62 6)) 4 (beh (m.2.1 66) e (m.2.1 62 0)))) := kI_U hm64 62 rfl (show ((-2147483648) : Int) ≤ (beh (m.2.1 66) e (m.2.1 62 0)) by omega) (show (beh (m.2.1 66) e (m.2.1 62 0)) ≤ (2147483647 : Int) by omega)
                            have hf68 : fr [] [62] m (kA (kA (kA (kA m 62 (up (m.2.1 62) 0 (beh (m.2.1 66) e (m.2.1 62 0)))) 62 (up (up (m.2.1 62) 0 (beh (m.2.1 66) e (m.2.1 62 0))) 1 (beh (m.2.1 66) e (m.2.1 62 0)))) 62 (up (up (up (m.2.1 62) 0 (beh (m.2.1 66) e (m.2.1 62 0))) 1 (beh (m.2.1 66) e (m.2.1 62 0))) 6 (m.2.1 62 6))) 62 (up (up (up (up (m.2.1 62) 0 (beh (m.2.1 66) e (m.2.1 62 0))) 1 (beh (m.2.1 66) e (m.2.1 62 0))) 6 (m.2.1 62 6)) 4 (beh (m.2.1 66) e (m.2.1 62 0)))) := fr_A hf65 62 _ rfl
                            refine g_aload_n (n := 0) rfl rfl ?_
                            refine g_getf (v := vR 62) rfl (kl_61 _) rfl ?_
                            refine g_iload_n (n := 1) rfl rfl ?_
                            refine g_iconst rfl ?_
                            refine g_iaddE (z := 2) (by decide) rfl ?_
                            refine g_iload_n (n := 2) rfl rfl ?_
                            refine g_iaddE (z := 2) (by decide) rfl ?_
                            refine g_iconst rfl ?_
                            refine g_iAst (f := up (up (up (up (m.2.1 62) 0 (beh (m.2.1 66) e (m.2.1 62 0))) 1 (beh (m.2.1 66) e (m.2.1 62 0))) 6 (m.2.1 62 6)) 4 (beh (m.2.1 66) e (m.2.1 62 0))) (m' := (kA (kA (kA (kA (kA m 62 (up (m.2.1 62) 0 (beh (m.2.1 66) e (m.2.1 62 0)))) 62 (up (up (m.2.1 62) 0 (beh (m.2.1 66) e (m.2.1 62 0))) 1 (beh (m.2.1 66) e (m.2.1 62 0)))) 62 (up (up (up (m.2.1 62) 0 (beh (m.2.1 66) e (m.2.1 62 0))) 1 (beh (m.2.1 66) e (m.2.1 62 0))) 6 (m.2.1 62 6))) 62 (up (up (up (up (m.2.1 62) 0 (beh (m.2.1 66) e (m.2.1 62 0))) 1 (beh (m.2.1 66) e (m.2.1 62 0))) 6 (m.2.1 62 6)) 4 (beh (m.2.1 66) e (m.2.1 62 0)))) 62 (up (up (up (up (up (m.2.1 62) 0 (beh (m.2.1 66) e (m.2.1 62 0))) 1 (beh (m.2.1 66) e (m.2.1 62 0))) 6 (m.2.1 62 6)) 4 (beh (m.2.1 66) e (m.2.1 62 0))) 2 0))) rfl (kl_62 _) (by decide) (by omega) (by omega) (kA_62 _ _) ?_
                            have hm69 : kI (kA (kA (kA (kA (kA m 62 (up (m.2.1 62) 0 (beh (m.2.1 66) e (m.2.1 62 0)))) 62 (up (up (m.2.1 62) 0 (beh (m.2.1 66) e (m.2.1 62 0))) 1 (beh (m.2.1 66) e (m.2.1 62 0)))) 62 (up (up (up (m.2.1 62) 0 (beh (m.2.1 66) e (m.2.1 62 0))) 1 (beh (m.2.1 66) e (m.2.1 62 0))) 6 (m.2.1 62 6))) 62 (up (up (up (up (m.2.1 62) 0 (beh (m.2.1 66) e (m.2.1 62 0))) 1 (beh (m.2.1 66) e (m.2.1 62 0))) 6 (m.2.1 62 6)) 4 (beh (m.2.1 66) e (m.2.1 62 0)))) 62 (up (up (up (up (up (m.2.1 62) 0 (beh (m.2.1 66) e (m.2.1 62 0))) 1 (beh (m.2.1 66) e (m.2.1 62 0))) 6 (m.2.1 62 6)) 4 (beh (m.2.1 66) e (m.2.1 62 0))) 2 0)) := kI_U hm67 62 rfl (show ((-2147483648) : Int) ≤ 0 by omega) (show 0 ≤ (2147483647 : Int) by omega)
                            have hf70 : fr [] [62] m (kA (kA (kA (kA (kA m 62 (up (m.2.1 62) 0 (beh (m.2.1 66) e (m.2.1 62 0)))) 62 (up (up (m.2.1 62) 0 (beh (m.2.1 66) e (m.2.1 62 0))) 1 (beh (m.2.1 66) e (m.2.1 62 0)))) 62 (up (up (up (m.2.1 62) 0 (beh (m.2.1 66) e (m.2.1 62 0))) 1 (beh (m.2.1 66) e (m.2.1 62 0))) 6 (m.2.1 62 6))) 62 (up (up (up (up (m.2.1 62) 0 (beh (m.2.1 66) e (m.2.1 62 0))) 1 (beh (m.2.1 66) e (m.2.1 62 0))) 6 (m.2.1 62 6)) 4 (beh (m.2.1 66) e (m.2.1 62 0)))) 62 (up (up (up (up (up (m.2.1 62) 0 (beh (m.2.1 66) e (m.2.1 62 0))) 1 (beh (m.2.1 66) e (m.2.1 62 0))) 6 (m.2.1 62 6)) 4 (beh (m.2.1 66) e (m.2.1 62 0))) 2 0)) := fr_A hf68 62 _ rfl
                            refine g_iconst rfl ?_
                            refine g_zret rfl rfl (by omega) ?_
                            refine ⟨_, _, rfl, hm69, hf70, Or.inl ⟨rfl, ?_⟩, (fun j hj => by show (up (up (up (up (up (m.2.1 62) 0 (beh (m.2.1 66) e (m.2.1 62 0))) 1 (beh (m.2.1 66) e (m.2.1 62 0))) 6 (m.2.1 62 6)) 4 (beh (m.2.1 66) e (m.2.1 62 0))) 2 0) j = m.2.1 62 j; rw [up_ne _ (by omega), up_ne _ (by omega), up_ne _ (by omega), up_ne _ (by omega), up_ne _ (by omega)])⟩
                            show goB_0 (m.2.1 66) (m.2.1 62 0, m.2.1 62 1, m.2.1 62 2, m.2.1 62 3, m.2.1 62 4, m.2.1 62 5, m.2.1 62 6) e = some ((beh (m.2.1 66) e (m.2.1 62 0)), (beh (m.2.1 66) e (m.2.1 62 0)), 0, m.2.1 62 3, (beh (m.2.1 66) e (m.2.1 62 0)), m.2.1 62 5, m.2.1 62 6)
                            dsimp only [goB_0]
                            repeat (split <;> try (exfalso; omega))
                            all_goals first | rfl | omega
                          · intro k71
                            exfalso; omega
                        · intro k72
                          exfalso; omega
                    · intro k73
                      refine g_iconst rfl ?_
                      refine g_zret rfl rfl (by omega) ?_
                      refine ⟨_, _, rfl, hm, hf0, Or.inr ⟨rfl, ?_, rfl⟩, fun j hj => rfl⟩
                      show goB_0 (m.2.1 66) (m.2.1 62 0, m.2.1 62 1, m.2.1 62 2, m.2.1 62 3, m.2.1 62 4, m.2.1 62 5, m.2.1 62 6) e = none
                      dsimp only [goB_0]
                      repeat (split <;> try (exfalso; omega))
                      all_goals first | rfl | omega
    · intro k74
      exfalso; omega
theorem d_goX_0_0 {V : cg_V} {d q : Nat} (hd : 1 ≤ d) (hq : 24 ≤ q) {m : kM} (hm : kI m) {e : Int} (h_e : 0 ≤ e ∧ e ≤ 9) (hw : kw (kr0 (m.2.1 62))) : cg_S V d q mX10_goes [vR 61, vI 0, vI 0, vI e, vI 34] (kl m) (R_I (fun z m' => (kI m') ∧ (fr [] [62] m m') ∧ ((z = 1 ∧ goX_0 (m.2.1 66) (kr0 (m.2.1 62)) e = some (kr0 (m'.2.1 62))) ∨ (z = 0 ∧ goX_0 (m.2.1 66) (kr0 (m.2.1 62)) e = none ∧ (kr0 (m'.2.1 62)) = (kr0 (m.2.1 62)))) ∧ (∀ j : Int, (j < 0 ∨ 7 ≤ j) → m'.2.1 62 j = m.2.1 62 j))) := by
  have hf0 : fr [] [62] m m := fr_rf m
  refine cg_of (List.mem_of_getElem? (show ae_MT[149]? = some mX10_goes from rfl)) (Nat.le_of_ble_eq_true rfl) ?_
  show cg_G V mX10_goes d q _ 0 [(0, vR 61), (1, vI 0), (2, vI 0), (3, vI e), (4, vI 34)] [] (kl m) 0 0
  have w0 : 0 ≤ m.2.1 62 0 ∧ m.2.1 62 0 ≤ 5 := hw.1
  have w1 : 0 ≤ m.2.1 62 1 ∧ m.2.1 62 1 ≤ 5 := hw.2.1
  have w2 : 0 ≤ m.2.1 62 2 ∧ m.2.1 62 2 ≤ 2 := hw.2.2.1
  have w3 : 0 ≤ m.2.1 62 3 ∧ m.2.1 62 3 ≤ 2 := hw.2.2.2.1
  have w4 : (-1) ≤ m.2.1 62 4 ∧ m.2.1 62 4 ≤ 5 := hw.2.2.2.2.1
  have w5 : 0 ≤ m.2.1 62 5 ∧ m.2.1 62 5 ≤ 63 := hw.2.2.2.2.2.1
  have w6 : 0 ≤ m.2.1 62 6 ∧ m.2.1 62 6 ≤ 3 := hw.2.2.2.2.2.2.1
  have w7 : 0 ≤ m.2.1 62 4 ∨ m.2.1 62 2 = 2 ∨ m.2.1 62 3 = 2 := hw.2.2.2.2.2.2.2
  refine g_aload_n (n := 0) rfl rfl ?_
  refine g_getf (v := vR 62) rfl (kl_61 _) rfl ?_
  refine g_iload_n (n := 1) rfl rfl ?_
  refine g_iconst rfl ?_
  refine g_iaddE (z := 0) (by decide) rfl ?_
  refine g_iload_n (n := 2) rfl rfl ?_
  refine g_iaddE (z := 0) (by decide) rfl ?_
  refine g_ialE (f := m.2.1 62) (v := m.2.1 62 0) rfl (kl_62 _) (by decide) (by decide) (by decide) rfl ?_
  refine g_istore (n := 5) (lo' := [(0, vR 61), (1, vI 0), (2, vI 0), (3, vI e), (4, vI 34)]) rfl rfl ?_
  refine g_aload_n (n := 0) rfl rfl ?_
  refine g_iload_n (n := 3) rfl rfl ?_
  refine g_iload (n := 5) rfl rfl ?_
  refine c_vI (i := 61) (ps := [vI (m.2.1 62 0), vI e]) (r := []) (as := [vR 61, vI e, vI (m.2.1 62 0)]) (cs' := 0) (sl' := 0) rfl rfl rfl rfl rfl rfl (kl_61 _) (d_behind (d := d - 1) (q := q - (3 + 19)) (by omega) (by omega) hm (e := e) (r := m.2.1 62 0) (show 0 ≤ e ∧ e ≤ 9 by omega) (show (-2147483648) ≤ m.2.1 62 0 ∧ m.2.1 62 0 ≤ 2147483647 by omega)) (by omega) (show 3 + 19 ≤ q by omega) (Nat.le_of_ble_eq_true rfl) (Nat.le_of_ble_eq_true rfl) rfl rfl rfl ?_
  rintro z1 m2 ⟨rfl, p4, p5, p6⟩
  subst p4
  refine g_istore (n := 6) (lo' := [(5, vI (m.2.1 62 0)), (0, vR 61), (1, vI 0), (2, vI 0), (3, vI e), (4, vI 34)]) rfl rfl ?_
  refine g_iconst rfl ?_
  refine g_iload_n (n := 2) rfl rfl ?_
  refine g_isubE (z := 1) (by decide) rfl ?_
  refine g_istore (n := 7) (lo' := [(6, vI (beh (m.2.1 66) e (m.2.1 62 0))), (5, vI (m.2.1 62 0)), (0, vR 61), (1, vI 0), (2, vI 0), (3, vI e), (4, vI 34)]) rfl rfl ?_
  refine g_iload (n := 4) rfl rfl ?_
  refine g_bipush (by decide) rfl ?_
  refine g_icmp_ne (by decide) (by decide) (by decide) (by decide) rfl ?_ ?_
  · intro k7
    refine g_iconst rfl ?_
    refine g_istore (n := 8) (lo' := [(7, vI 1), (6, vI (beh (m.2.1 66) e (m.2.1 62 0))), (5, vI (m.2.1 62 0)), (0, vR 61), (1, vI 0), (2, vI 0), (3, vI e), (4, vI 34)]) rfl rfl ?_
    refine g_iload (n := 4) rfl rfl ?_
    refine g_bipush (by decide) rfl ?_
    refine g_icmp_ne (by decide) (by decide) (by decide) (by decide) rfl ?_ ?_
    · intro k8
      exfalso; omega
    · intro k9
      refine g_aload_n (n := 0) rfl rfl ?_
      refine g_getf (v := vR 62) rfl (kl_61 _) rfl ?_
      refine g_iload_n (n := 1) rfl rfl ?_
      refine g_iconst rfl ?_
      refine g_iaddE (z := 2) (by decide) rfl ?_
      refine g_iload_n (n := 2) rfl rfl ?_
      refine g_iaddE (z := 2) (by decide) rfl ?_
      refine g_ialE (f := m.2.1 62) (v := m.2.1 62 2) rfl (kl_62 _) (by decide) (by decide) (by decide) rfl ?_
      refine g_if_ne (by omega) (by omega) rfl ?_ ?_
      · intro k10
        refine g_iconst rfl ?_
        refine g_goto rfl ?_
        refine g_istore (n := 9) (lo' := [(8, vI 0), (7, vI 1), (6, vI (beh (m.2.1 66) e (m.2.1 62 0))), (5, vI (m.2.1 62 0)), (0, vR 61), (1, vI 0), (2, vI 0), (3, vI e), (4, vI 34)]) rfl rfl ?_
        refine g_iload (n := 6) rfl rfl ?_
        refine g_iconst rfl ?_
        refine g_icmp_eq (by omega) (by omega) (by decide) (by decide) rfl ?_ ?_
        · intro k11
          refine g_iconst rfl ?_
          refine g_zret rfl rfl (by omega) ?_
          refine ⟨_, _, rfl, hm, hf0, Or.inr ⟨rfl, ?_, rfl⟩, fun j hj => rfl⟩
          show goX_0 (m.2.1 66) (m.2.1 62 0, m.2.1 62 1, m.2.1 62 2, m.2.1 62 3, m.2.1 62 4, m.2.1 62 5, m.2.1 62 6) e = none
          dsimp only [goX_0]
          repeat (split <;> try (exfalso; omega))
          all_goals first | rfl | omega
        · intro k12
          refine g_iload (n := 9) rfl rfl ?_
          refine g_if_eq (by decide) (by decide) rfl ?_ ?_
          · intro k13
            refine g_iconst rfl ?_
            refine g_zret rfl rfl (by omega) ?_
            refine ⟨_, _, rfl, hm, hf0, Or.inr ⟨rfl, ?_, rfl⟩, fun j hj => rfl⟩
            show goX_0 (m.2.1 66) (m.2.1 62 0, m.2.1 62 1, m.2.1 62 2, m.2.1 62 3, m.2.1 62 4, m.2.1 62 5, m.2.1 62 6) e = none
            dsimp only [goX_0]
            repeat (split <;> try (exfalso; omega))
            all_goals first | rfl | omega
          · intro k14
            exfalso; omega
      · intro k15
        refine g_aload_n (n := 0) rfl rfl ?_
        refine g_getf (v := vR 62) rfl (kl_61 _) rfl ?_
        refine g_iload_n (n := 1) rfl rfl ?_
        refine g_bipush (by decide) rfl ?_
        refine g_iaddE (z := 6) (by decide) rfl ?_
        refine g_ialE (f := m.2.1 62) (v := m.2.1 62 6) rfl (kl_62 _) (by decide) (by decide) (by decide) rfl ?_
        refine g_if_le (by omega) (by omega) rfl ?_ ?_
        · intro k16
          refine g_iconst rfl ?_
          refine g_goto rfl ?_
          refine g_istore (n := 9) (lo' := [(8, vI 0), (7, vI 1), (6, vI (beh (m.2.1 66) e (m.2.1 62 0))), (5, vI (m.2.1 62 0)), (0, vR 61), (1, vI 0), (2, vI 0), (3, vI e), (4, vI 34)]) rfl rfl ?_
          refine g_iload (n := 6) rfl rfl ?_
          refine g_iconst rfl ?_
          refine g_icmp_eq (by omega) (by omega) (by decide) (by decide) rfl ?_ ?_
          · intro k17
            refine g_iconst rfl ?_
            refine g_zret rfl rfl (by omega) ?_
            refine ⟨_, _, rfl, hm, hf0, Or.inr ⟨rfl, ?_, rfl⟩, fun j hj => rfl⟩
            show goX_0 (m.2.1 66) (m.2.1 62 0, m.2.1 62 1, m.2.1 62 2, m.2.1 62 3, m.2.1 62 4, m.2.1 62 5, m.2.1 62 6) e = none
            dsimp only [goX_0]
            repeat (split <;> try (exfalso; omega))
            all_goals first | rfl | omega
          · intro k18
            refine g_iload (n := 9) rfl rfl ?_
            refine g_if_eq (by decide) (by decide) rfl ?_ ?_
            · intro k19
              refine g_iconst rfl ?_
              refine g_zret rfl rfl (by omega) ?_
              refine ⟨_, _, rfl, hm, hf0, Or.inr ⟨rfl, ?_, rfl⟩, fun j hj => rfl⟩
              show goX_0 (m.2.1 66) (m.2.1 62 0, m.2.1 62 1, m.2.1 62 2, m.2.1 62 3, m.2.1 62 4, m.2.1 62 5, m.2.1 62 6) e = none
              dsimp only [goX_0]
              repeat (split <;> try (exfalso; omega))
              all_goals first | rfl | omega
            · intro k20
              exfalso; omega
        · intro k21
          refine g_iconst rfl ?_
          refine g_goto rfl ?_
          refine g_istore (n := 9) (lo' := [(8, vI 0), (7, vI 1), (6, vI (beh (m.2.1 66) e (m.2.1 62 0))), (5, vI (m.2.1 62 0)), (0, vR 61), (1, vI 0), (2, vI 0), (3, vI e), (4, vI 34)]) rfl rfl ?_
          refine g_iload (n := 6) rfl rfl ?_
          refine g_iconst rfl ?_
          refine g_icmp_eq (by omega) (by omega) (by decide) (by decide) rfl ?_ ?_
          · intro k22
            refine g_iconst rfl ?_
            refine g_zret rfl rfl (by omega) ?_
            refine ⟨_, _, rfl, hm, hf0, Or.inr ⟨rfl, ?_, rfl⟩, fun j hj => rfl⟩
            show goX_0 (m.2.1 66) (m.2.1 62 0, m.2.1 62 1, m.2.1 62 2, m.2.1 62 3, m.2.1 62 4, m.2.1 62 5, m.2.1 62 6) e = none
            dsimp only [goX_0]
            repeat (split <;> try (exfalso; omega))
            all_goals first | rfl | omega
          · intro k23
            refine g_iload (n := 9) rfl rfl ?_
            refine g_if_eq (by decide) (by decide) rfl ?_ ?_
            · intro k24
              exfalso; omega
            · intro k25
              refine g_iload (n := 8) rfl rfl ?_
              refine g_if_eq (by decide) (by decide) rfl ?_ ?_
              · intro k26
                refine g_aload_n (n := 0) rfl rfl ?_
                refine g_iload_n (n := 3) rfl rfl ?_
                refine g_iload (n := 5) rfl rfl ?_
                refine g_iload (n := 4) rfl rfl ?_
                refine g_iload (n := 8) rfl rfl ?_
                refine g_if_eq (by decide) (by decide) rfl ?_ ?_
                · intro k27
                  refine g_iconst rfl ?_
                  refine c_vI (i := 61) (ps := [vI 0, vI 34, vI (m.2.1 62 0), vI e]) (r := []) (as := [vR 61, vI e, vI (m.2.1 62 0), vI 34, vI 0]) (cs' := 0) (sl' := 0) rfl rfl rfl rfl rfl rfl (kl_61 _) (d_opens (d := d - 1) (q := q - (5 + 19)) (by omega) (by omega) hm (e := e) (r := m.2.1 62 0) (v := 34) (l := 0) (show 0 ≤ e ∧ e ≤ 9 by omega) (show (-2147483648) ≤ m.2.1 62 0 ∧ m.2.1 62 0 ≤ 2147483647 by omega) (show (-2147483648) ≤ 34 ∧ 34 ≤ 2147483647 by omega) (show 0 ≤ 0 ∧ 0 ≤ 1 by omega)) (by omega) (show 5 + 19 ≤ q by omega) (Nat.le_of_ble_eq_true rfl) (Nat.le_of_ble_eq_true rfl) rfl rfl rfl ?_
                  rintro z28 m29 ⟨rfl, p31, p32⟩
                  subst p31
                  refine g_if_ne (by omega) (by omega) rfl ?_ ?_
                  · intro k33
                    refine g_aload_n (n := 0) rfl rfl ?_
                    refine g_getf (v := vR 62) rfl (kl_61 _) rfl ?_
                    refine g_iload_n (n := 1) rfl rfl ?_
                    refine g_iconst rfl ?_
                    refine g_iaddE (z := 0) (by decide) rfl ?_
                    refine g_iload_n (n := 2) rfl rfl ?_
                    refine g_iaddE (z := 0) (by decide) rfl ?_
                    refine g_iload (n := 6) rfl rfl ?_
                    refine g_iAst (f := m.2.1 62) (m' := (kA m 62 (up (m.2.1 62) 0 (beh (m.2.1 66) e (m.2.1 62 0))))) rfl (kl_62 _) (by decide) (by omega) (by omega) (kA_62 _ _) ?_
                    have hm34 : kI (kA m 62 (up (m.2.1 62) 0 (beh (m.2.1 66) e (m.2.1 62 0)))) := kI_U hm 62 rfl (show ((-2147483648) : Int) ≤ (beh (m.2.1 66) e (m.2.1 62 0)) by omega) (show (beh (m.2.1 66) e (m.2.1 62 0)) ≤ (2147483647 : Int) by omega)
                    have hf35 : fr [] [62] m (kA m 62 (up (m.2.1 62) 0 (beh (m.2.1 66) e (m.2.1 62 0)))) := fr_A hf0 62 _ rfl
                    refine g_aload_n (n := 0) rfl rfl ?_
                    refine g_getf (v := vR 62) rfl (kl_61 _) rfl ?_
                    refine g_iload_n (n := 1) rfl rfl ?_
                    refine g_iconst rfl ?_
                    refine g_iaddE (z := 0) (by decide) rfl ?_
                    refine g_iload (n := 7) rfl rfl ?_
                    refine g_iaddE (z := 1) (by decide) rfl ?_
                    refine g_iload (n := 8) rfl rfl ?_
                    refine g_if_eq (by decide) (by decide) rfl ?_ ?_
                    · intro k36
                      refine g_aload_n (n := 0) rfl rfl ?_
                      refine g_getf (v := vR 62) rfl (kl_61 _) rfl ?_
                      refine g_iload_n (n := 1) rfl rfl ?_
                      refine g_iconst rfl ?_
                      refine g_iaddE (z := 0) (by decide) rfl ?_
                      refine g_iload (n := 7) rfl rfl ?_
                      refine g_iaddE (z := 1) (by decide) rfl ?_
                      refine g_ialE (f := up (m.2.1 62) 0 (beh (m.2.1 66) e (m.2.1 62 0))) (v := m.2.1 62 1) rfl (kl_62 _) (by decide) (by decide) (by decide) rfl ?_
                      refine g_iAst (f := up (m.2.1 62) 0 (beh (m.2.1 66) e (m.2.1 62 0))) (m' := (kA (kA m 62 (up (m.2.1 62) 0 (beh (m.2.1 66) e (m.2.1 62 0)))) 62 (up (up (m.2.1 62) 0 (beh (m.2.1 66) e (m.2.1 62 0))) 1 (m.2.1 62 1)))) rfl (kl_62 _) (by decide) (by omega) (by omega) (kA_62 _ _) ?_
                      have hm37 : kI (kA (kA m 62 (up (m.2.1 62) 0 (beh (m.2.1 66) e (m.2.1 62 0)))) 62 (up (up (m.2.1 62) 0 (beh (m.2.1 66) e (m.2.1 62 0))) 1 (m.2.1 62 1))) := kI_U hm34 62 rfl (show ((-2147483648) : Int) ≤ m.2.1 62 1 by omega) (show m.2.1 62 1 ≤ (2147483647 : Int) by omega)
                      have hf38 : fr [] [62] m (kA (kA m 62 (up (m.2.1 62) 0 (beh (m.2.1 66) e (m.2.1 62 0)))) 62 (up (up (m.2.1 62) 0 (beh (m.2.1 66) e (m.2.1 62 0))) 1 (m.2.1 62 1))) := fr_A hf35 62 _ rfl
                      refine g_aload_n (n := 0) rfl rfl ?_
                      refine g_getf (v := vR 62) rfl (kl_61 _) rfl ?_
                      refine g_iload_n (n := 1) rfl rfl ?_
                      refine g_bipush (by decide) rfl ?_
                      refine g_iaddE (z := 6) (by decide) rfl ?_
                      refine g_dup2 rfl rfl rfl ?_
                      refine g_ialE (f := up (up (m.2.1 62) 0 (beh (m.2.1 66) e (m.2.1 62 0))) 1 (m.2.1 62 1)) (v := m.2.1 62 6) rfl (kl_62 _) (by decide) (by decide) (by decide) rfl ?_
                      refine g_iload (n := 4) rfl rfl ?_
                      refine g_bipush (by decide) rfl ?_
                      refine g_icmp_ne (by decide) (by decide) (by decide) (by decide) rfl ?_ ?_
                      · intro k39
                        exfalso; omega
                      · intro k40
                        refine g_iconst rfl ?_
                        refine g_goto rfl ?_
                        refine g_isub rfl ?_
                        refine g_iAst (f := up (up (m.2.1 62) 0 (beh (m.2.1 66) e (m.2.1 62 0))) 1 (m.2.1 62 1)) (m' := (kA (kA (kA m 62 (up (m.2.1 62) 0 (beh (m.2.1 66) e (m.2.1 62 0)))) 62 (up (up (m.2.1 62) 0 (beh (m.2.1 66) e (m.2.1 62 0))) 1 (m.2.1 62 1))) 62 (up (up (up (m.2.1 62) 0 (beh (m.2.1 66) e (m.2.1 62 0))) 1 (m.2.1 62 1)) 6 (m.2.1 62 6 - 1)))) rfl (kl_62 _) (by decide) (by omega) (by omega) (kA_62 _ _) ?_
                        have hm41 : kI (kA (kA (kA m 62 (up (m.2.1 62) 0 (beh (m.2.1 66) e (m.2.1 62 0)))) 62 (up (up (m.2.1 62) 0 (beh (m.2.1 66) e (m.2.1 62 0))) 1 (m.2.1 62 1))) 62 (up (up (up (m.2.1 62) 0 (beh (m.2.1 66) e (m.2.1 62 0))) 1 (m.2.1 62 1)) 6 (m.2.1 62 6 - 1))) := kI_U hm37 62 rfl (show ((-2147483648) : Int) ≤ (m.2.1 62 6 - 1) by omega) (show (m.2.1 62 6 - 1) ≤ (2147483647 : Int) by omega)
                        have hf42 : fr [] [62] m (kA (kA (kA m 62 (up (m.2.1 62) 0 (beh (m.2.1 66) e (m.2.1 62 0)))) 62 (up (up (m.2.1 62) 0 (beh (m.2.1 66) e (m.2.1 62 0))) 1 (m.2.1 62 1))) 62 (up (up (up (m.2.1 62) 0 (beh (m.2.1 66) e (m.2.1 62 0))) 1 (m.2.1 62 1)) 6 (m.2.1 62 6 - 1))) := fr_A hf38 62 _ rfl
                        refine g_aload_n (n := 0) rfl rfl ?_
                        refine g_getf (v := vR 62) rfl (kl_61 _) rfl ?_
                        refine g_iload_n (n := 1) rfl rfl ?_
                        refine g_iconst rfl ?_
                        refine g_iaddE (z := 4) (by decide) rfl ?_
                        refine g_iload (n := 4) rfl rfl ?_
                        refine g_bipush (by decide) rfl ?_
                        refine g_icmp_ne (by decide) (by decide) (by decide) (by decide) rfl ?_ ?_
                        · intro k43
                          exfalso; omega
                        · intro k44
                          refine g_aload_n (n := 0) rfl rfl ?_
                          refine g_getf (v := vR 62) rfl (kl_61 _) rfl ?_
                          refine g_iload_n (n := 1) rfl rfl ?_
                          refine g_iconst rfl ?_
                          refine g_iaddE (z := 4) (by decide) rfl ?_
                          refine g_ialE (f := up (up (up (m.2.1 62) 0 (beh (m.2.1 66) e (m.2.1 62 0))) 1 (m.2.1 62 1)) 6 (m.2.1 62 6 - 1)) (v := m.2.1 62 4) rfl (kl_62 _) (by decide) (by decide) (by decide) rfl ?_
                          refine g_goto rfl ?_
                          refine g_iAst (f := up (up (up (m.2.1 62) 0 (beh (m.2.1 66) e (m.2.1 62 0))) 1 (m.2.1 62 1)) 6 (m.2.1 62 6 - 1)) (m' := (kA (kA (kA (kA m 62 (up (m.2.1 62) 0 (beh (m.2.1 66) e (m.2.1 62 0)))) 62 (up (up (m.2.1 62) 0 (beh (m.2.1 66) e (m.2.1 62 0))) 1 (m.2.1 62 1))) 62 (up (up (up (m.2.1 62) 0 (beh (m.2.1 66) e (m.2.1 62 0))) 1 (m.2.1 62 1)) 6 (m.2.1 62 6 - 1))) 62 (up (up (up (up (m.2.1 62) 0 (beh (m.2.1 66) e (m.2.1 62 0))) 1 (m.2.1 62 1)) 6 (m.2.1 62 6 - 1)) 4 (m.2.1 62 4)))) rfl (kl_62 _) (by decide) (by omega) (by omega) (kA_62 _ _) ?_
                          have hm45 : kI (kA (kA (kA (kA m 62 (up (m.2.1 62) 0 (beh (m.2.1 66) e (m.2.1 62 0)))) 62 (up (up (m.2.1 62) 0 (beh (m.2.1 66) e (m.2.1 62 0))) 1 (m.2.1 62 1))) 62 (up (up (up (m.2.1 62) 0 (beh (m.2.1 66) e (m.2.1 62 0))) 1 (m.2.1 62 1)) 6 (m.2.1 62 6 - 1))) 62 (up (up (up (up (m.2.1 62) 0 (beh (m.2.1 66) e (m.2.1 62 0))) 1 (m.2.1 62 1)) 6 (m.2.1 62 6 - 1)) 4 (m.2.1 62 4))) := kI_U hm41 62 rfl (show ((-2147483648) : Int) ≤ m.2.1 62 4 by omega) (show m.2.1 62 4 ≤ (2147483647 : Int) by omega)
                          have hf46 : fr [] [62] m (kA (kA (kA (kA m 62 (up (m.2.1 62) 0 (beh (m.2.1 66) e (m.2.1 62 0)))) 62 (up (up (m.2.1 62) 0 (beh (m.2.1 66) e (m.2.1 62 0))) 1 (m.2.1 62 1))) 62 (up (up (up (m.2.1 62) 0 (beh (m.2.1 66) e (m.2.1 62 0))) 1 (m.2.1 62 1)) 6 (m.2.1 62 6 - 1))) 62 (up (up (up (up (m.2.1 62) 0 (beh (m.2.1 66) e (m.2.1 62 0))) 1 (m.2.1 62 1)) 6 (m.2.1 62 6 - 1)) 4 (m.2.1 62 4))) := fr_A hf42 62 _ rfl
                          refine g_aload_n (n := 0) rfl rfl ?_
                          refine g_getf (v := vR 62) rfl (kl_61 _) rfl ?_
                          refine g_iload_n (n := 1) rfl rfl ?_
                          refine g_iconst rfl ?_
                          refine g_iaddE (z := 2) (by decide) rfl ?_
                          refine g_iload_n (n := 2) rfl rfl ?_
                          refine g_iaddE (z := 2) (by decide) rfl ?_
                          refine g_iconst rfl ?_
                          refine g_iAst (f := up (up (up (up (m.2.1 62) 0 (beh (m.2.1 66) e (m.2.1 62 0))) 1 (m.2.1 62 1)) 6 (m.2.1 62 6 - 1)) 4 (m.2.1 62 4)) (m' := (kA (kA (kA (kA (kA m 62 (up (m.2.1 62) 0 (beh (m.2.1 66) e (m.2.1 62 0)))) 62 (up (up (m.2.1 62) 0 (beh (m.2.1 66) e (m.2.1 62 0))) 1 (m.2.1 62 1))) 62 (up (up (up (m.2.1 62) 0 (beh (m.2.1 66) e (m.2.1 62 0))) 1 (m.2.1 62 1)) 6 (m.2.1 62 6 - 1))) 62 (up (up (up (up (m.2.1 62) 0 (beh (m.2.1 66) e (m.2.1 62 0))) 1 (m.2.1 62 1)) 6 (m.2.1 62 6 - 1)) 4 (m.2.1 62 4))) 62 (up (up (up (up (up (m.2.1 62) 0 (beh (m.2.1 66) e (m.2.1 62 0))) 1 (m.2.1 62 1)) 6 (m.2.1 62 6 - 1)) 4 (m.2.1 62 4)) 2 0))) rfl (kl_62 _) (by decide) (by omega) (by omega) (kA_62 _ _) ?_
                          have hm47 : kI (kA (kA (kA (kA (kA m 62 (up (m.2.1 62) 0 (beh (m.2.1 66) e (m.2.1 62 0)))) 62 (up (up (m.2.1 62) 0 (beh (m.2.1 66) e (m.2.1 62 0))) 1 (m.2.1 62 1))) 62 (up (up (up (m.2.1 62) 0 (beh (m.2.1 66) e (m.2.1 62 0))) 1 (m.2.1 62 1)) 6 (m.2.1 62 6 - 1))) 62 (up (up (up (up (m.2.1 62) 0 (beh (m.2.1 66) e (m.2.1 62 0))) 1 (m.2.1 62 1)) 6 (m.2.1 62 6 - 1)) 4 (m.2.1 62 4))) 62 (up (up (up (up (up (m.2.1 62) 0 (beh (m.2.1 66) e (m.2.1 62 0))) 1 (m.2.1 62 1)) 6 (m.2.1 62 6 - 1)) 4 (m.2.1 62 4)) 2 0)) := kI_U hm45 62 rfl (show ((-2147483648) : Int) ≤ 0 by omega) (show 0 ≤ (2147483647 : Int) by omega)
                          have hf48 : fr [] [62] m (kA (kA (kA (kA (kA m 62 (up (m.2.1 62) 0 (beh (m.2.1 66) e (m.2.1 62 0)))) 62 (up (up (m.2.1 62) 0 (beh (m.2.1 66) e (m.2.1 62 0))) 1 (m.2.1 62 1))) 62 (up (up (up (m.2.1 62) 0 (beh (m.2.1 66) e (m.2.1 62 0))) 1 (m.2.1 62 1)) 6 (m.2.1 62 6 - 1))) 62 (up (up (up (up (m.2.1 62) 0 (beh (m.2.1 66) e (m.2.1 62 0))) 1 (m.2.1 62 1)) 6 (m.2.1 62 6 - 1)) 4 (m.2.1 62 4))) 62 (up (up (up (up (up (m.2.1 62) 0 (beh (m.2.1 66) e (m.2.1 62 0))) 1 (m.2.1 62 1)) 6 (m.2.1 62 6 - 1)) 4 (m.2.1 62 4)) 2 0)) := fr_A hf46 62 _ rfl
                          refine g_iconst rfl ?_
                          refine g_zret rfl rfl (by omega) ?_
                          refine ⟨_, _, rfl, hm47, hf48, Or.inl ⟨rfl, ?_⟩, (fun j hj => by show (up (up (up (up (up (m.2.1 62) 0 (beh (m.2.1 66) e (m.2.1 62 0))) 1 (m.2.1 62 1)) 6 (m.2.1 62 6 - 1)) 4 (m.2.1 62 4)) 2 0) j = m.2.1 62 j; rw [up_ne _ (by omega), up_ne _ (by omega), up_ne _ (by omega), up_ne _ (by omega), up_ne _ (by omega)])⟩
                          show goX_0 (m.2.1 66) (m.2.1 62 0, m.2.1 62 1, m.2.1 62 2, m.2.1 62 3, m.2.1 62 4, m.2.1 62 5, m.2.1 62 6) e = some ((beh (m.2.1 66) e (m.2.1 62 0)), m.2.1 62 1, 0, m.2.1 62 3, m.2.1 62 4, m.2.1 62 5, (m.2.1 62 6 - 1))
                          dsimp only [goX_0]
                          repeat (split <;> try (exfalso; omega))
                          all_goals first | rfl | omega
                    · intro k49
                      exfalso; omega
                  · intro k50
                    refine g_iconst rfl ?_
                    refine g_zret rfl rfl (by omega) ?_
                    refine ⟨_, _, rfl, hm, hf0, Or.inr ⟨rfl, ?_, rfl⟩, fun j hj => rfl⟩
                    show goX_0 (m.2.1 66) (m.2.1 62 0, m.2.1 62 1, m.2.1 62 2, m.2.1 62 3, m.2.1 62 4, m.2.1 62 5, m.2.1 62 6) e = none
                    dsimp only [goX_0]
                    repeat (split <;> try (exfalso; omega))
                    all_goals first | rfl | omega
                · intro k51
                  exfalso; omega
              · intro k52
                exfalso; omega
  · intro k53
    exfalso; omega
theorem d_stays_0_1 {V : cg_V} {d q : Nat} (hd : 1 ≤ d) (hq : 21 ≤ q) {m : kM} (hm : kI m) {a : Int} (h_a : (-1) ≤ a ∧ a ≤ 3) (hw : kw (kr0 (m.2.1 62))) : cg_S V d q mX10_stays [vR 61, vI 0, vI 1, vI a] (kl m) (R_I (fun z m' => (kI m') ∧ (fr [] [62] m m') ∧ ((z = 1 ∧ stay_1 (m.1 27) (kr0 (m.2.1 62)) a = some (kr0 (m'.2.1 62))) ∨ (z = 0 ∧ stay_1 (m.1 27) (kr0 (m.2.1 62)) a = none ∧ (kr0 (m'.2.1 62)) = (kr0 (m.2.1 62)))) ∧ (∀ j : Int, (j < 0 ∨ 7 ≤ j) → m'.2.1 62 j = m.2.1 62 j))) := by
  have hf0 : fr [] [62] m m := fr_rf m
  refine cg_of (List.mem_of_getElem? (show ae_MT[150]? = some mX10_stays from rfl)) (Nat.le_of_ble_eq_true rfl) ?_
  show cg_G V mX10_stays d q _ 0 [(0, vR 61), (1, vI 0), (2, vI 1), (3, vI a)] [] (kl m) 0 0
  have h1 : 0 ≤ m.1 27 ∧ m.1 27 ≤ 5 := hm.1 27
  have w0 : 0 ≤ m.2.1 62 0 ∧ m.2.1 62 0 ≤ 5 := hw.1
  have w1 : 0 ≤ m.2.1 62 1 ∧ m.2.1 62 1 ≤ 5 := hw.2.1
  have w2 : 0 ≤ m.2.1 62 2 ∧ m.2.1 62 2 ≤ 2 := hw.2.2.1
  have w3 : 0 ≤ m.2.1 62 3 ∧ m.2.1 62 3 ≤ 2 := hw.2.2.2.1
  have w4 : (-1) ≤ m.2.1 62 4 ∧ m.2.1 62 4 ≤ 5 := hw.2.2.2.2.1
  have w5 : 0 ≤ m.2.1 62 5 ∧ m.2.1 62 5 ≤ 63 := hw.2.2.2.2.2.1
  have w6 : 0 ≤ m.2.1 62 6 ∧ m.2.1 62 6 ≤ 3 := hw.2.2.2.2.2.2.1
  have w7 : 0 ≤ m.2.1 62 4 ∨ m.2.1 62 2 = 2 ∨ m.2.1 62 3 = 2 := hw.2.2.2.2.2.2.2
  have h2 : a = (-1) ∨ a = 0 ∨ a = 1 ∨ a = 2 ∨ a = 3 := by omega
  rcases h2 with rfl | rfl | rfl | rfl | rfl
  · refine g_aload_n (n := 0) rfl rfl ?_
    refine g_getf (v := vR 62) rfl (kl_61 _) rfl ?_
    refine g_iload_n (n := 1) rfl rfl ?_
    refine g_iconst rfl ?_
    refine g_iaddE (z := 0) (by decide) rfl ?_
    refine g_iload_n (n := 2) rfl rfl ?_
    refine g_iaddE (z := 1) (by decide) rfl ?_
    refine g_ialE (f := m.2.1 62) (v := m.2.1 62 1) rfl (kl_62 _) (by decide) (by decide) (by decide) rfl ?_
    refine g_istore (n := 4) (lo' := [(0, vR 61), (1, vI 0), (2, vI 1), (3, vI (-1))]) rfl rfl ?_
    refine g_aload_n (n := 0) rfl rfl ?_
    refine g_getf (v := vR 62) rfl (kl_61 _) rfl ?_
    refine g_iload_n (n := 1) rfl rfl ?_
    refine g_iconst rfl ?_
    refine g_iaddE (z := 2) (by decide) rfl ?_
    refine g_iload_n (n := 2) rfl rfl ?_
    refine g_iaddE (z := 3) (by decide) rfl ?_
    refine g_ialE (f := m.2.1 62) (v := m.2.1 62 3) rfl (kl_62 _) (by decide) (by decide) (by decide) rfl ?_
    refine g_istore (n := 5) (lo' := [(4, vI (m.2.1 62 1)), (0, vR 61), (1, vI 0), (2, vI 1), (3, vI (-1))]) rfl rfl ?_
    refine g_iload_n (n := 3) rfl rfl ?_
    refine g_if_ne (by decide) (by decide) rfl ?_ ?_
    · intro k3
      refine g_iload_n (n := 3) rfl rfl ?_
      refine g_iconst rfl ?_
      refine g_icmp_ne (by decide) (by decide) (by decide) (by decide) rfl ?_ ?_
      · intro k4
        refine g_iload_n (n := 3) rfl rfl ?_
        refine g_iconst rfl ?_
        refine g_icmp_ne (by decide) (by decide) (by decide) (by decide) rfl ?_ ?_
        · intro k5
          refine g_iload (n := 5) rfl rfl ?_
          refine g_iconst rfl ?_
          refine g_icmp_ne (by omega) (by omega) (by decide) (by decide) rfl ?_ ?_
          · intro k6
            refine g_iconst rfl ?_
            refine g_istore (n := 6) (lo' := [(5, vI (m.2.1 62 3)), (4, vI (m.2.1 62 1)), (0, vR 61), (1, vI 0), (2, vI 1), (3, vI (-1))]) rfl rfl ?_
            refine g_iload (n := 6) rfl rfl ?_
            refine g_if_eq (by decide) (by decide) rfl ?_ ?_
            · intro k7
              refine g_iload (n := 6) rfl rfl ?_
              refine g_zret rfl rfl (by omega) ?_
              refine ⟨_, _, rfl, hm, hf0, Or.inr ⟨rfl, ?_, rfl⟩, fun j hj => rfl⟩
              show stay_1 (m.1 27) (m.2.1 62 0, m.2.1 62 1, m.2.1 62 2, m.2.1 62 3, m.2.1 62 4, m.2.1 62 5, m.2.1 62 6) (-1) = none
              dsimp only [stay_1]
              repeat (split <;> try (exfalso; omega))
              all_goals first | rfl | omega
            · intro k8
              exfalso; omega
          · intro k9
            refine g_aload_n (n := 0) rfl rfl ?_
            refine g_getf (v := vR 62) rfl (kl_61 _) rfl ?_
            refine g_iload_n (n := 1) rfl rfl ?_
            refine g_iconst rfl ?_
            refine g_iaddE (z := 5) (by decide) rfl ?_
            refine g_ialE (f := m.2.1 62) (v := m.2.1 62 5) rfl (kl_62 _) (by decide) (by decide) (by decide) rfl ?_
            refine g_iload (n := 4) rfl rfl ?_
            refine c_sI (ps := [vI (m.2.1 62 1), vI (m.2.1 62 5)]) (r := []) (as := [vI (m.2.1 62 5), vI (m.2.1 62 1)]) (cs' := 0) (sl' := 0) rfl rfl rfl rfl rfl rfl (d_has (d := d - 1) (q := q - (2 + 19)) (by omega) (by omega) hm (s := m.2.1 62 5) (k := m.2.1 62 1) (show (-2147483648) ≤ m.2.1 62 5 ∧ m.2.1 62 5 ≤ 2147483647 by omega) (show 0 ≤ m.2.1 62 1 ∧ m.2.1 62 1 ≤ 5 by omega)) (by omega) (show 2 + 19 ≤ q by omega) (Nat.le_of_ble_eq_true rfl) (Nat.le_of_ble_eq_true rfl) rfl rfl rfl ?_
            rintro z10 m11 ⟨rfl, p13, p14, p15⟩
            subst p13
            refine g_if_eq (by omega) (by omega) rfl ?_ ?_
            · intro k16
              refine g_iconst rfl ?_
              refine g_istore (n := 6) (lo' := [(5, vI (m.2.1 62 3)), (4, vI (m.2.1 62 1)), (0, vR 61), (1, vI 0), (2, vI 1), (3, vI (-1))]) rfl rfl ?_
              refine g_iload (n := 6) rfl rfl ?_
              refine g_if_eq (by decide) (by decide) rfl ?_ ?_
              · intro k17
                refine g_iload (n := 6) rfl rfl ?_
                refine g_zret rfl rfl (by omega) ?_
                refine ⟨_, _, rfl, hm, hf0, Or.inr ⟨rfl, ?_, rfl⟩, fun j hj => rfl⟩
                show stay_1 (m.1 27) (m.2.1 62 0, m.2.1 62 1, m.2.1 62 2, m.2.1 62 3, m.2.1 62 4, m.2.1 62 5, m.2.1 62 6) (-1) = none
                dsimp only [stay_1]
                repeat (split <;> try (exfalso; omega))
                all_goals first | rfl | omega
              · intro k18
                exfalso; omega
            · intro k19
              refine g_iconst rfl ?_
              refine g_goto rfl ?_
              refine g_istore (n := 6) (lo' := [(5, vI (m.2.1 62 3)), (4, vI (m.2.1 62 1)), (0, vR 61), (1, vI 0), (2, vI 1), (3, vI (-1))]) rfl rfl ?_
              refine g_iload (n := 6) rfl rfl ?_
              refine g_if_eq (by decide) (by decide) rfl ?_ ?_
              · intro k20
                exfalso; omega
              · intro k21
                refine g_aload_n (n := 0) rfl rfl ?_
                refine g_getf (v := vR 62) rfl (kl_61 _) rfl ?_
                refine g_iload_n (n := 1) rfl rfl ?_
                refine g_iconst rfl ?_
                refine g_iaddE (z := 4) (by decide) rfl ?_
                refine g_iload_n (n := 3) rfl rfl ?_
                refine g_if_ne (by decide) (by decide) rfl ?_ ?_
                · intro k22
                  refine g_iload_n (n := 3) rfl rfl ?_
                  refine g_iconst rfl ?_
                  refine g_icmp_ne (by decide) (by decide) (by decide) (by decide) rfl ?_ ?_
                  · intro k23
                    refine g_aload_n (n := 0) rfl rfl ?_
                    refine g_getf (v := vR 62) rfl (kl_61 _) rfl ?_
                    refine g_iload_n (n := 1) rfl rfl ?_
                    refine g_iconst rfl ?_
                    refine g_iaddE (z := 4) (by decide) rfl ?_
                    refine g_ialE (f := m.2.1 62) (v := m.2.1 62 4) rfl (kl_62 _) (by decide) (by decide) (by decide) rfl ?_
                    refine g_iAst (f := m.2.1 62) (m' := (kA m 62 (up (m.2.1 62) 4 (m.2.1 62 4)))) rfl (kl_62 _) (by decide) (by omega) (by omega) (kA_62 _ _) ?_
                    have hm24 : kI (kA m 62 (up (m.2.1 62) 4 (m.2.1 62 4))) := kI_U hm 62 rfl (show ((-2147483648) : Int) ≤ m.2.1 62 4 by omega) (show m.2.1 62 4 ≤ (2147483647 : Int) by omega)
                    have hf25 : fr [] [62] m (kA m 62 (up (m.2.1 62) 4 (m.2.1 62 4))) := fr_A hf0 62 _ rfl
                    refine g_aload_n (n := 0) rfl rfl ?_
                    refine g_getf (v := vR 62) rfl (kl_61 _) rfl ?_
                    refine g_iload_n (n := 1) rfl rfl ?_
                    refine g_iconst rfl ?_
                    refine g_iaddE (z := 5) (by decide) rfl ?_
                    refine g_dup2 rfl rfl rfl ?_
                    refine g_ialE (f := up (m.2.1 62) 4 (m.2.1 62 4)) (v := m.2.1 62 5) rfl (kl_62 _) (by decide) (by decide) (by decide) rfl ?_
                    refine g_iload_n (n := 3) rfl rfl ?_
                    refine g_iconst rfl ?_
                    refine g_icmp_ne (by decide) (by decide) (by decide) (by decide) rfl ?_ ?_
                    · intro k26
                      refine g_iconst rfl ?_
                      refine g_iand rfl ?_
                      intro z27 h28 h29 h30
                      have h31 : z27 = m.2.1 62 5 := b_andm1 h28 (by omega) (by omega)
                      refine g_iAst (f := up (m.2.1 62) 4 (m.2.1 62 4)) (m' := (kA (kA m 62 (up (m.2.1 62) 4 (m.2.1 62 4))) 62 (up (up (m.2.1 62) 4 (m.2.1 62 4)) 5 z27))) rfl (kl_62 _) (by decide) (by omega) (by omega) (kA_62 _ _) ?_
                      have hm32 : kI (kA (kA m 62 (up (m.2.1 62) 4 (m.2.1 62 4))) 62 (up (up (m.2.1 62) 4 (m.2.1 62 4)) 5 z27)) := kI_U hm24 62 rfl (show ((-2147483648) : Int) ≤ z27 by omega) (show z27 ≤ (2147483647 : Int) by omega)
                      have hf33 : fr [] [62] m (kA (kA m 62 (up (m.2.1 62) 4 (m.2.1 62 4))) 62 (up (up (m.2.1 62) 4 (m.2.1 62 4)) 5 z27)) := fr_A hf25 62 _ rfl
                      refine g_aload_n (n := 0) rfl rfl ?_
                      refine g_getf (v := vR 62) rfl (kl_61 _) rfl ?_
                      refine g_iload_n (n := 1) rfl rfl ?_
                      refine g_iconst rfl ?_
                      refine g_iaddE (z := 2) (by decide) rfl ?_
                      refine g_iload_n (n := 2) rfl rfl ?_
                      refine g_iaddE (z := 3) (by decide) rfl ?_
                      refine g_iload_n (n := 3) rfl rfl ?_
                      refine g_if_ne (by decide) (by decide) rfl ?_ ?_
                      · intro k34
                        refine g_iload_n (n := 3) rfl rfl ?_
                        refine g_iconst rfl ?_
                        refine g_icmp_ne (by decide) (by decide) (by decide) (by decide) rfl ?_ ?_
                        · intro k35
                          refine g_iconst rfl ?_
                          refine g_iAst (f := up (up (m.2.1 62) 4 (m.2.1 62 4)) 5 z27) (m' := (kA (kA (kA m 62 (up (m.2.1 62) 4 (m.2.1 62 4))) 62 (up (up (m.2.1 62) 4 (m.2.1 62 4)) 5 z27)) 62 (up (up (up (m.2.1 62) 4 (m.2.1 62 4)) 5 z27) 3 0))) rfl (kl_62 _) (by decide) (by omega) (by omega) (kA_62 _ _) ?_
                          have hm36 : kI (kA (kA (kA m 62 (up (m.2.1 62) 4 (m.2.1 62 4))) 62 (up (up (m.2.1 62) 4 (m.2.1 62 4)) 5 z27)) 62 (up (up (up (m.2.1 62) 4 (m.2.1 62 4)) 5 z27) 3 0)) := kI_U hm32 62 rfl (show ((-2147483648) : Int) ≤ 0 by omega) (show 0 ≤ (2147483647 : Int) by omega)
                          have hf37 : fr [] [62] m (kA (kA (kA m 62 (up (m.2.1 62) 4 (m.2.1 62 4))) 62 (up (up (m.2.1 62) 4 (m.2.1 62 4)) 5 z27)) 62 (up (up (up (m.2.1 62) 4 (m.2.1 62 4)) 5 z27) 3 0)) := fr_A hf33 62 _ rfl
                          refine g_iload (n := 6) rfl rfl ?_
                          refine g_zret rfl rfl (by omega) ?_
                          refine ⟨_, _, rfl, hm36, hf37, Or.inl ⟨rfl, ?_⟩, (fun j hj => by show (up (up (up (m.2.1 62) 4 (m.2.1 62 4)) 5 z27) 3 0) j = m.2.1 62 j; rw [up_ne _ (by omega), up_ne _ (by omega), up_ne _ (by omega)])⟩
                          show stay_1 (m.1 27) (m.2.1 62 0, m.2.1 62 1, m.2.1 62 2, m.2.1 62 3, m.2.1 62 4, m.2.1 62 5, m.2.1 62 6) (-1) = some (m.2.1 62 0, m.2.1 62 1, m.2.1 62 2, 0, m.2.1 62 4, z27, m.2.1 62 6)
                          simp only [h31]
                          dsimp only [stay_1]
                          repeat (split <;> try (exfalso; omega))
                          all_goals first | rfl | omega
                        · intro k38
                          exfalso; omega
                      · intro k39
                        exfalso; omega
                    · intro k40
                      exfalso; omega
                  · intro k41
                    exfalso; omega
                · intro k42
                  exfalso; omega
        · intro k43
          exfalso; omega
      · intro k44
        exfalso; omega
    · intro k45
      exfalso; omega
  · refine g_aload_n (n := 0) rfl rfl ?_
    refine g_getf (v := vR 62) rfl (kl_61 _) rfl ?_
    refine g_iload_n (n := 1) rfl rfl ?_
    refine g_iconst rfl ?_
    refine g_iaddE (z := 0) (by decide) rfl ?_
    refine g_iload_n (n := 2) rfl rfl ?_
    refine g_iaddE (z := 1) (by decide) rfl ?_
    refine g_ialE (f := m.2.1 62) (v := m.2.1 62 1) rfl (kl_62 _) (by decide) (by decide) (by decide) rfl ?_
    refine g_istore (n := 4) (lo' := [(0, vR 61), (1, vI 0), (2, vI 1), (3, vI 0)]) rfl rfl ?_
    refine g_aload_n (n := 0) rfl rfl ?_
    refine g_getf (v := vR 62) rfl (kl_61 _) rfl ?_
    refine g_iload_n (n := 1) rfl rfl ?_
    refine g_iconst rfl ?_
    refine g_iaddE (z := 2) (by decide) rfl ?_
    refine g_iload_n (n := 2) rfl rfl ?_
    refine g_iaddE (z := 3) (by decide) rfl ?_
    refine g_ialE (f := m.2.1 62) (v := m.2.1 62 3) rfl (kl_62 _) (by decide) (by decide) (by decide) rfl ?_
    refine g_istore (n := 5) (lo' := [(4, vI (m.2.1 62 1)), (0, vR 61), (1, vI 0), (2, vI 1), (3, vI 0)]) rfl rfl ?_
    refine g_iload_n (n := 3) rfl rfl ?_
    refine g_if_ne (by decide) (by decide) rfl ?_ ?_
    · intro k46
      exfalso; omega
    · intro k47
      refine g_iload (n := 5) rfl rfl ?_
      refine g_if_ne (by omega) (by omega) rfl ?_ ?_
      · intro k48
        refine g_iconst rfl ?_
        refine g_goto rfl ?_
        refine g_istore (n := 6) (lo' := [(5, vI (m.2.1 62 3)), (4, vI (m.2.1 62 1)), (0, vR 61), (1, vI 0), (2, vI 1), (3, vI 0)]) rfl rfl ?_
        refine g_iload (n := 6) rfl rfl ?_
        refine g_if_eq (by decide) (by decide) rfl ?_ ?_
        · intro k49
          refine g_iload (n := 6) rfl rfl ?_
          refine g_zret rfl rfl (by omega) ?_
          refine ⟨_, _, rfl, hm, hf0, Or.inr ⟨rfl, ?_, rfl⟩, fun j hj => rfl⟩
          show stay_1 (m.1 27) (m.2.1 62 0, m.2.1 62 1, m.2.1 62 2, m.2.1 62 3, m.2.1 62 4, m.2.1 62 5, m.2.1 62 6) 0 = none
          dsimp only [stay_1]
          repeat (split <;> try (exfalso; omega))
          all_goals first | rfl | omega
        · intro k50
          exfalso; omega
      · intro k51
        refine g_aload_n (n := 0) rfl rfl ?_
        refine g_getf (v := vR 62) rfl (kl_61 _) rfl ?_
        refine g_iload_n (n := 1) rfl rfl ?_
        refine g_iconst rfl ?_
        refine g_iaddE (z := 4) (by decide) rfl ?_
        refine g_ialE (f := m.2.1 62) (v := m.2.1 62 4) rfl (kl_62 _) (by decide) (by decide) (by decide) rfl ?_
        refine g_iload (n := 4) rfl rfl ?_
        refine g_icmp_ne (by omega) (by omega) (by omega) (by omega) rfl ?_ ?_
        · intro k52
          refine g_iconst rfl ?_
          refine g_goto rfl ?_
          refine g_istore (n := 6) (lo' := [(5, vI (m.2.1 62 3)), (4, vI (m.2.1 62 1)), (0, vR 61), (1, vI 0), (2, vI 1), (3, vI 0)]) rfl rfl ?_
          refine g_iload (n := 6) rfl rfl ?_
          refine g_if_eq (by decide) (by decide) rfl ?_ ?_
          · intro k53
            refine g_iload (n := 6) rfl rfl ?_
            refine g_zret rfl rfl (by omega) ?_
            refine ⟨_, _, rfl, hm, hf0, Or.inr ⟨rfl, ?_, rfl⟩, fun j hj => rfl⟩
            show stay_1 (m.1 27) (m.2.1 62 0, m.2.1 62 1, m.2.1 62 2, m.2.1 62 3, m.2.1 62 4, m.2.1 62 5, m.2.1 62 6) 0 = none
            dsimp only [stay_1]
            repeat (split <;> try (exfalso; omega))
            all_goals first | rfl | omega
          · intro k54
            exfalso; omega
        · intro k55
          refine g_iconst rfl ?_
          refine g_goto rfl ?_
          refine g_istore (n := 6) (lo' := [(5, vI (m.2.1 62 3)), (4, vI (m.2.1 62 1)), (0, vR 61), (1, vI 0), (2, vI 1), (3, vI 0)]) rfl rfl ?_
          refine g_iload (n := 6) rfl rfl ?_
          refine g_if_eq (by decide) (by decide) rfl ?_ ?_
          · intro k56
            exfalso; omega
          · intro k57
            refine g_aload_n (n := 0) rfl rfl ?_
            refine g_getf (v := vR 62) rfl (kl_61 _) rfl ?_
            refine g_iload_n (n := 1) rfl rfl ?_
            refine g_iconst rfl ?_
            refine g_iaddE (z := 4) (by decide) rfl ?_
            refine g_iload_n (n := 3) rfl rfl ?_
            refine g_if_ne (by decide) (by decide) rfl ?_ ?_
            · intro k58
              exfalso; omega
            · intro k59
              refine g_iconst rfl ?_
              refine g_goto rfl ?_
              refine g_iAst (f := m.2.1 62) (m' := (kA m 62 (up (m.2.1 62) 4 (-1)))) rfl (kl_62 _) (by decide) (by omega) (by omega) (kA_62 _ _) ?_
              have hm60 : kI (kA m 62 (up (m.2.1 62) 4 (-1))) := kI_U hm 62 rfl (show ((-2147483648) : Int) ≤ (-1) by omega) (show (-1) ≤ (2147483647 : Int) by omega)
              have hf61 : fr [] [62] m (kA m 62 (up (m.2.1 62) 4 (-1))) := fr_A hf0 62 _ rfl
              refine g_aload_n (n := 0) rfl rfl ?_
              refine g_getf (v := vR 62) rfl (kl_61 _) rfl ?_
              refine g_iload_n (n := 1) rfl rfl ?_
              refine g_iconst rfl ?_
              refine g_iaddE (z := 5) (by decide) rfl ?_
              refine g_dup2 rfl rfl rfl ?_
              refine g_ialE (f := up (m.2.1 62) 4 (-1)) (v := m.2.1 62 5) rfl (kl_62 _) (by decide) (by decide) (by decide) rfl ?_
              refine g_iload_n (n := 3) rfl rfl ?_
              refine g_iconst rfl ?_
              refine g_icmp_ne (by decide) (by decide) (by decide) (by decide) rfl ?_ ?_
              · intro k62
                refine g_iconst rfl ?_
                refine g_iand rfl ?_
                intro z63 h64 h65 h66
                have h67 : z63 = m.2.1 62 5 := b_andm1 h64 (by omega) (by omega)
                refine g_iAst (f := up (m.2.1 62) 4 (-1)) (m' := (kA (kA m 62 (up (m.2.1 62) 4 (-1))) 62 (up (up (m.2.1 62) 4 (-1)) 5 z63))) rfl (kl_62 _) (by decide) (by omega) (by omega) (kA_62 _ _) ?_
                have hm68 : kI (kA (kA m 62 (up (m.2.1 62) 4 (-1))) 62 (up (up (m.2.1 62) 4 (-1)) 5 z63)) := kI_U hm60 62 rfl (show ((-2147483648) : Int) ≤ z63 by omega) (show z63 ≤ (2147483647 : Int) by omega)
                have hf69 : fr [] [62] m (kA (kA m 62 (up (m.2.1 62) 4 (-1))) 62 (up (up (m.2.1 62) 4 (-1)) 5 z63)) := fr_A hf61 62 _ rfl
                refine g_aload_n (n := 0) rfl rfl ?_
                refine g_getf (v := vR 62) rfl (kl_61 _) rfl ?_
                refine g_iload_n (n := 1) rfl rfl ?_
                refine g_iconst rfl ?_
                refine g_iaddE (z := 2) (by decide) rfl ?_
                refine g_iload_n (n := 2) rfl rfl ?_
                refine g_iaddE (z := 3) (by decide) rfl ?_
                refine g_iload_n (n := 3) rfl rfl ?_
                refine g_if_ne (by decide) (by decide) rfl ?_ ?_
                · intro k70
                  exfalso; omega
                · intro k71
                  refine g_iconst rfl ?_
                  refine g_goto rfl ?_
                  refine g_iAst (f := up (up (m.2.1 62) 4 (-1)) 5 z63) (m' := (kA (kA (kA m 62 (up (m.2.1 62) 4 (-1))) 62 (up (up (m.2.1 62) 4 (-1)) 5 z63)) 62 (up (up (up (m.2.1 62) 4 (-1)) 5 z63) 3 2))) rfl (kl_62 _) (by decide) (by omega) (by omega) (kA_62 _ _) ?_
                  have hm72 : kI (kA (kA (kA m 62 (up (m.2.1 62) 4 (-1))) 62 (up (up (m.2.1 62) 4 (-1)) 5 z63)) 62 (up (up (up (m.2.1 62) 4 (-1)) 5 z63) 3 2)) := kI_U hm68 62 rfl (show ((-2147483648) : Int) ≤ 2 by omega) (show 2 ≤ (2147483647 : Int) by omega)
                  have hf73 : fr [] [62] m (kA (kA (kA m 62 (up (m.2.1 62) 4 (-1))) 62 (up (up (m.2.1 62) 4 (-1)) 5 z63)) 62 (up (up (up (m.2.1 62) 4 (-1)) 5 z63) 3 2)) := fr_A hf69 62 _ rfl
                  refine g_iload (n := 6) rfl rfl ?_
                  refine g_zret rfl rfl (by omega) ?_
                  refine ⟨_, _, rfl, hm72, hf73, Or.inl ⟨rfl, ?_⟩, (fun j hj => by show (up (up (up (m.2.1 62) 4 (-1)) 5 z63) 3 2) j = m.2.1 62 j; rw [up_ne _ (by omega), up_ne _ (by omega), up_ne _ (by omega)])⟩
                  show stay_1 (m.1 27) (m.2.1 62 0, m.2.1 62 1, m.2.1 62 2, m.2.1 62 3, m.2.1 62 4, m.2.1 62 5, m.2.1 62 6) 0 = some (m.2.1 62 0, m.2.1 62 1, m.2.1 62 2, 2, (-1), z63, m.2.1 62 6)
                  simp only [h67]
                  dsimp only [stay_1]
                  repeat (split <;> try (exfalso; omega))
                  all_goals first | rfl | omega
              · intro k74
                exfalso; omega
  · refine g_aload_n (n := 0) rfl rfl ?_
    refine g_getf (v := vR 62) rfl (kl_61 _) rfl ?_
    refine g_iload_n (n := 1) rfl rfl ?_
    refine g_iconst rfl ?_
    refine g_iaddE (z := 0) (by decide) rfl ?_
    refine g_iload_n (n := 2) rfl rfl ?_
    refine g_iaddE (z := 1) (by decide) rfl ?_
    refine g_ialE (f := m.2.1 62) (v := m.2.1 62 1) rfl (kl_62 _) (by decide) (by decide) (by decide) rfl ?_
    refine g_istore (n := 4) (lo' := [(0, vR 61), (1, vI 0), (2, vI 1), (3, vI 1)]) rfl rfl ?_
    refine g_aload_n (n := 0) rfl rfl ?_
    refine g_getf (v := vR 62) rfl (kl_61 _) rfl ?_
    refine g_iload_n (n := 1) rfl rfl ?_
    refine g_iconst rfl ?_
    refine g_iaddE (z := 2) (by decide) rfl ?_
    refine g_iload_n (n := 2) rfl rfl ?_
    refine g_iaddE (z := 3) (by decide) rfl ?_
    refine g_ialE (f := m.2.1 62) (v := m.2.1 62 3) rfl (kl_62 _) (by decide) (by decide) (by decide) rfl ?_
    refine g_istore (n := 5) (lo' := [(4, vI (m.2.1 62 1)), (0, vR 61), (1, vI 0), (2, vI 1), (3, vI 1)]) rfl rfl ?_
    refine g_iload_n (n := 3) rfl rfl ?_
    refine g_if_ne (by decide) (by decide) rfl ?_ ?_
    · intro k75
      refine g_iload_n (n := 3) rfl rfl ?_
      refine g_iconst rfl ?_
      refine g_icmp_ne (by decide) (by decide) (by decide) (by decide) rfl ?_ ?_
      · intro k76
        exfalso; omega
      · intro k77
        refine g_iload (n := 5) rfl rfl ?_
        refine g_iconst rfl ?_
        refine g_icmp_ne (by omega) (by omega) (by decide) (by decide) rfl ?_ ?_
        · intro k78
          refine g_iconst rfl ?_
          refine g_goto rfl ?_
          refine g_istore (n := 6) (lo' := [(5, vI (m.2.1 62 3)), (4, vI (m.2.1 62 1)), (0, vR 61), (1, vI 0), (2, vI 1), (3, vI 1)]) rfl rfl ?_
          refine g_iload (n := 6) rfl rfl ?_
          refine g_if_eq (by decide) (by decide) rfl ?_ ?_
          · intro k79
            refine g_iload (n := 6) rfl rfl ?_
            refine g_zret rfl rfl (by omega) ?_
            refine ⟨_, _, rfl, hm, hf0, Or.inr ⟨rfl, ?_, rfl⟩, fun j hj => rfl⟩
            show stay_1 (m.1 27) (m.2.1 62 0, m.2.1 62 1, m.2.1 62 2, m.2.1 62 3, m.2.1 62 4, m.2.1 62 5, m.2.1 62 6) 1 = none
            dsimp only [stay_1]
            repeat (split <;> try (exfalso; omega))
            all_goals first | rfl | omega
          · intro k80
            exfalso; omega
        · intro k81
          refine g_iconst rfl ?_
          refine g_goto rfl ?_
          refine g_istore (n := 6) (lo' := [(5, vI (m.2.1 62 3)), (4, vI (m.2.1 62 1)), (0, vR 61), (1, vI 0), (2, vI 1), (3, vI 1)]) rfl rfl ?_
          refine g_iload (n := 6) rfl rfl ?_
          refine g_if_eq (by decide) (by decide) rfl ?_ ?_
          · intro k82
            exfalso; omega
          · intro k83
            refine g_aload_n (n := 0) rfl rfl ?_
            refine g_getf (v := vR 62) rfl (kl_61 _) rfl ?_
            refine g_iload_n (n := 1) rfl rfl ?_
            refine g_iconst rfl ?_
            refine g_iaddE (z := 4) (by decide) rfl ?_
            refine g_iload_n (n := 3) rfl rfl ?_
            refine g_if_ne (by decide) (by decide) rfl ?_ ?_
            · intro k84
              refine g_iload_n (n := 3) rfl rfl ?_
              refine g_iconst rfl ?_
              refine g_icmp_ne (by decide) (by decide) (by decide) (by decide) rfl ?_ ?_
              · intro k85
                exfalso; omega
              · intro k86
                refine g_iload (n := 4) rfl rfl ?_
                refine g_goto rfl ?_
                refine g_iAst (f := m.2.1 62) (m' := (kA m 62 (up (m.2.1 62) 4 (m.2.1 62 1)))) rfl (kl_62 _) (by decide) (by omega) (by omega) (kA_62 _ _) ?_
                have hm87 : kI (kA m 62 (up (m.2.1 62) 4 (m.2.1 62 1))) := kI_U hm 62 rfl (show ((-2147483648) : Int) ≤ m.2.1 62 1 by omega) (show m.2.1 62 1 ≤ (2147483647 : Int) by omega)
                have hf88 : fr [] [62] m (kA m 62 (up (m.2.1 62) 4 (m.2.1 62 1))) := fr_A hf0 62 _ rfl
                refine g_aload_n (n := 0) rfl rfl ?_
                refine g_getf (v := vR 62) rfl (kl_61 _) rfl ?_
                refine g_iload_n (n := 1) rfl rfl ?_
                refine g_iconst rfl ?_
                refine g_iaddE (z := 5) (by decide) rfl ?_
                refine g_dup2 rfl rfl rfl ?_
                refine g_ialE (f := up (m.2.1 62) 4 (m.2.1 62 1)) (v := m.2.1 62 5) rfl (kl_62 _) (by decide) (by decide) (by decide) rfl ?_
                refine g_iload_n (n := 3) rfl rfl ?_
                refine g_iconst rfl ?_
                refine g_icmp_ne (by decide) (by decide) (by decide) (by decide) rfl ?_ ?_
                · intro k89
                  refine g_iconst rfl ?_
                  refine g_iand rfl ?_
                  intro z90 h91 h92 h93
                  have h94 : z90 = m.2.1 62 5 := b_andm1 h91 (by omega) (by omega)
                  refine g_iAst (f := up (m.2.1 62) 4 (m.2.1 62 1)) (m' := (kA (kA m 62 (up (m.2.1 62) 4 (m.2.1 62 1))) 62 (up (up (m.2.1 62) 4 (m.2.1 62 1)) 5 z90))) rfl (kl_62 _) (by decide) (by omega) (by omega) (kA_62 _ _) ?_
                  have hm95 : kI (kA (kA m 62 (up (m.2.1 62) 4 (m.2.1 62 1))) 62 (up (up (m.2.1 62) 4 (m.2.1 62 1)) 5 z90)) := kI_U hm87 62 rfl (show ((-2147483648) : Int) ≤ z90 by omega) (show z90 ≤ (2147483647 : Int) by omega)
                  have hf96 : fr [] [62] m (kA (kA m 62 (up (m.2.1 62) 4 (m.2.1 62 1))) 62 (up (up (m.2.1 62) 4 (m.2.1 62 1)) 5 z90)) := fr_A hf88 62 _ rfl
                  refine g_aload_n (n := 0) rfl rfl ?_
                  refine g_getf (v := vR 62) rfl (kl_61 _) rfl ?_
                  refine g_iload_n (n := 1) rfl rfl ?_
                  refine g_iconst rfl ?_
                  refine g_iaddE (z := 2) (by decide) rfl ?_
                  refine g_iload_n (n := 2) rfl rfl ?_
                  refine g_iaddE (z := 3) (by decide) rfl ?_
                  refine g_iload_n (n := 3) rfl rfl ?_
                  refine g_if_ne (by decide) (by decide) rfl ?_ ?_
                  · intro k97
                    refine g_iload_n (n := 3) rfl rfl ?_
                    refine g_iconst rfl ?_
                    refine g_icmp_ne (by decide) (by decide) (by decide) (by decide) rfl ?_ ?_
                    · intro k98
                      refine g_iconst rfl ?_
                      refine g_iAst (f := up (up (m.2.1 62) 4 (m.2.1 62 1)) 5 z90) (m' := (kA (kA (kA m 62 (up (m.2.1 62) 4 (m.2.1 62 1))) 62 (up (up (m.2.1 62) 4 (m.2.1 62 1)) 5 z90)) 62 (up (up (up (m.2.1 62) 4 (m.2.1 62 1)) 5 z90) 3 0))) rfl (kl_62 _) (by decide) (by omega) (by omega) (kA_62 _ _) ?_
                      have hm99 : kI (kA (kA (kA m 62 (up (m.2.1 62) 4 (m.2.1 62 1))) 62 (up (up (m.2.1 62) 4 (m.2.1 62 1)) 5 z90)) 62 (up (up (up (m.2.1 62) 4 (m.2.1 62 1)) 5 z90) 3 0)) := kI_U hm95 62 rfl (show ((-2147483648) : Int) ≤ 0 by omega) (show 0 ≤ (2147483647 : Int) by omega)
                      have hf100 : fr [] [62] m (kA (kA (kA m 62 (up (m.2.1 62) 4 (m.2.1 62 1))) 62 (up (up (m.2.1 62) 4 (m.2.1 62 1)) 5 z90)) 62 (up (up (up (m.2.1 62) 4 (m.2.1 62 1)) 5 z90) 3 0)) := fr_A hf96 62 _ rfl
                      refine g_iload (n := 6) rfl rfl ?_
                      refine g_zret rfl rfl (by omega) ?_
                      refine ⟨_, _, rfl, hm99, hf100, Or.inl ⟨rfl, ?_⟩, (fun j hj => by show (up (up (up (m.2.1 62) 4 (m.2.1 62 1)) 5 z90) 3 0) j = m.2.1 62 j; rw [up_ne _ (by omega), up_ne _ (by omega), up_ne _ (by omega)])⟩
                      show stay_1 (m.1 27) (m.2.1 62 0, m.2.1 62 1, m.2.1 62 2, m.2.1 62 3, m.2.1 62 4, m.2.1 62 5, m.2.1 62 6) 1 = some (m.2.1 62 0, m.2.1 62 1, m.2.1 62 2, 0, m.2.1 62 1, z90, m.2.1 62 6)
                      simp only [h94]
                      dsimp only [stay_1]
                      repeat (split <;> try (exfalso; omega))
                      all_goals first | rfl | omega
                    · intro k101
                      exfalso; omega
                  · intro k102
                    exfalso; omega
                · intro k103
                  exfalso; omega
            · intro k104
              exfalso; omega
    · intro k105
      exfalso; omega
  · refine g_aload_n (n := 0) rfl rfl ?_
    refine g_getf (v := vR 62) rfl (kl_61 _) rfl ?_
    refine g_iload_n (n := 1) rfl rfl ?_
    refine g_iconst rfl ?_
    refine g_iaddE (z := 0) (by decide) rfl ?_
    refine g_iload_n (n := 2) rfl rfl ?_
    refine g_iaddE (z := 1) (by decide) rfl ?_
    refine g_ialE (f := m.2.1 62) (v := m.2.1 62 1) rfl (kl_62 _) (by decide) (by decide) (by decide) rfl ?_
    refine g_istore (n := 4) (lo' := [(0, vR 61), (1, vI 0), (2, vI 1), (3, vI 2)]) rfl rfl ?_
    refine g_aload_n (n := 0) rfl rfl ?_
    refine g_getf (v := vR 62) rfl (kl_61 _) rfl ?_
    refine g_iload_n (n := 1) rfl rfl ?_
    refine g_iconst rfl ?_
    refine g_iaddE (z := 2) (by decide) rfl ?_
    refine g_iload_n (n := 2) rfl rfl ?_
    refine g_iaddE (z := 3) (by decide) rfl ?_
    refine g_ialE (f := m.2.1 62) (v := m.2.1 62 3) rfl (kl_62 _) (by decide) (by decide) (by decide) rfl ?_
    refine g_istore (n := 5) (lo' := [(4, vI (m.2.1 62 1)), (0, vR 61), (1, vI 0), (2, vI 1), (3, vI 2)]) rfl rfl ?_
    refine g_iload_n (n := 3) rfl rfl ?_
    refine g_if_ne (by decide) (by decide) rfl ?_ ?_
    · intro k106
      refine g_iload_n (n := 3) rfl rfl ?_
      refine g_iconst rfl ?_
      refine g_icmp_ne (by decide) (by decide) (by decide) (by decide) rfl ?_ ?_
      · intro k107
        refine g_iload_n (n := 3) rfl rfl ?_
        refine g_iconst rfl ?_
        refine g_icmp_ne (by decide) (by decide) (by decide) (by decide) rfl ?_ ?_
        · intro k108
          exfalso; omega
        · intro k109
          refine g_iload (n := 5) rfl rfl ?_
          refine g_if_ne (by omega) (by omega) rfl ?_ ?_
          · intro k110
            refine g_iconst rfl ?_
            refine g_goto rfl ?_
            refine g_istore (n := 6) (lo' := [(5, vI (m.2.1 62 3)), (4, vI (m.2.1 62 1)), (0, vR 61), (1, vI 0), (2, vI 1), (3, vI 2)]) rfl rfl ?_
            refine g_iload (n := 6) rfl rfl ?_
            refine g_if_eq (by decide) (by decide) rfl ?_ ?_
            · intro k111
              refine g_iload (n := 6) rfl rfl ?_
              refine g_zret rfl rfl (by omega) ?_
              refine ⟨_, _, rfl, hm, hf0, Or.inr ⟨rfl, ?_, rfl⟩, fun j hj => rfl⟩
              show stay_1 (m.1 27) (m.2.1 62 0, m.2.1 62 1, m.2.1 62 2, m.2.1 62 3, m.2.1 62 4, m.2.1 62 5, m.2.1 62 6) 2 = none
              dsimp only [stay_1]
              repeat (split <;> try (exfalso; omega))
              all_goals first | rfl | omega
            · intro k112
              exfalso; omega
          · intro k113
            refine g_aload_n (n := 0) rfl rfl ?_
            refine g_getf (v := vI (m.1 27)) rfl (kl_61 _) rfl ?_
            refine g_iload (n := 4) rfl rfl ?_
            refine g_icmp_ne (by omega) (by omega) (by omega) (by omega) rfl ?_ ?_
            · intro k114
              refine g_iconst rfl ?_
              refine g_goto rfl ?_
              refine g_istore (n := 6) (lo' := [(5, vI (m.2.1 62 3)), (4, vI (m.2.1 62 1)), (0, vR 61), (1, vI 0), (2, vI 1), (3, vI 2)]) rfl rfl ?_
              refine g_iload (n := 6) rfl rfl ?_
              refine g_if_eq (by decide) (by decide) rfl ?_ ?_
              · intro k115
                refine g_iload (n := 6) rfl rfl ?_
                refine g_zret rfl rfl (by omega) ?_
                refine ⟨_, _, rfl, hm, hf0, Or.inr ⟨rfl, ?_, rfl⟩, fun j hj => rfl⟩
                show stay_1 (m.1 27) (m.2.1 62 0, m.2.1 62 1, m.2.1 62 2, m.2.1 62 3, m.2.1 62 4, m.2.1 62 5, m.2.1 62 6) 2 = none
                dsimp only [stay_1]
                repeat (split <;> try (exfalso; omega))
                all_goals first | rfl | omega
              · intro k116
                exfalso; omega
            · intro k117
              refine g_iconst rfl ?_
              refine g_goto rfl ?_
              refine g_istore (n := 6) (lo' := [(5, vI (m.2.1 62 3)), (4, vI (m.2.1 62 1)), (0, vR 61), (1, vI 0), (2, vI 1), (3, vI 2)]) rfl rfl ?_
              refine g_iload (n := 6) rfl rfl ?_
              refine g_if_eq (by decide) (by decide) rfl ?_ ?_
              · intro k118
                exfalso; omega
              · intro k119
                refine g_aload_n (n := 0) rfl rfl ?_
                refine g_getf (v := vR 62) rfl (kl_61 _) rfl ?_
                refine g_iload_n (n := 1) rfl rfl ?_
                refine g_iconst rfl ?_
                refine g_iaddE (z := 4) (by decide) rfl ?_
                refine g_iload_n (n := 3) rfl rfl ?_
                refine g_if_ne (by decide) (by decide) rfl ?_ ?_
                · intro k120
                  refine g_iload_n (n := 3) rfl rfl ?_
                  refine g_iconst rfl ?_
                  refine g_icmp_ne (by decide) (by decide) (by decide) (by decide) rfl ?_ ?_
                  · intro k121
                    refine g_aload_n (n := 0) rfl rfl ?_
                    refine g_getf (v := vR 62) rfl (kl_61 _) rfl ?_
                    refine g_iload_n (n := 1) rfl rfl ?_
                    refine g_iconst rfl ?_
                    refine g_iaddE (z := 4) (by decide) rfl ?_
                    refine g_ialE (f := m.2.1 62) (v := m.2.1 62 4) rfl (kl_62 _) (by decide) (by decide) (by decide) rfl ?_
                    refine g_iAst (f := m.2.1 62) (m' := (kA m 62 (up (m.2.1 62) 4 (m.2.1 62 4)))) rfl (kl_62 _) (by decide) (by omega) (by omega) (kA_62 _ _) ?_
                    have hm122 : kI (kA m 62 (up (m.2.1 62) 4 (m.2.1 62 4))) := kI_U hm 62 rfl (show ((-2147483648) : Int) ≤ m.2.1 62 4 by omega) (show m.2.1 62 4 ≤ (2147483647 : Int) by omega)
                    have hf123 : fr [] [62] m (kA m 62 (up (m.2.1 62) 4 (m.2.1 62 4))) := fr_A hf0 62 _ rfl
                    refine g_aload_n (n := 0) rfl rfl ?_
                    refine g_getf (v := vR 62) rfl (kl_61 _) rfl ?_
                    refine g_iload_n (n := 1) rfl rfl ?_
                    refine g_iconst rfl ?_
                    refine g_iaddE (z := 5) (by decide) rfl ?_
                    refine g_dup2 rfl rfl rfl ?_
                    refine g_ialE (f := up (m.2.1 62) 4 (m.2.1 62 4)) (v := m.2.1 62 5) rfl (kl_62 _) (by decide) (by decide) (by decide) rfl ?_
                    refine g_iload_n (n := 3) rfl rfl ?_
                    refine g_iconst rfl ?_
                    refine g_icmp_ne (by decide) (by decide) (by decide) (by decide) rfl ?_ ?_
                    · intro k124
                      refine g_iconst rfl ?_
                      refine g_iand rfl ?_
                      intro z125 h126 h127 h128
                      have h129 : z125 = m.2.1 62 5 := b_andm1 h126 (by omega) (by omega)
                      refine g_iAst (f := up (m.2.1 62) 4 (m.2.1 62 4)) (m' := (kA (kA m 62 (up (m.2.1 62) 4 (m.2.1 62 4))) 62 (up (up (m.2.1 62) 4 (m.2.1 62 4)) 5 z125))) rfl (kl_62 _) (by decide) (by omega) (by omega) (kA_62 _ _) ?_
                      have hm130 : kI (kA (kA m 62 (up (m.2.1 62) 4 (m.2.1 62 4))) 62 (up (up (m.2.1 62) 4 (m.2.1 62 4)) 5 z125)) := kI_U hm122 62 rfl (show ((-2147483648) : Int) ≤ z125 by omega) (show z125 ≤ (2147483647 : Int) by omega)
                      have hf131 : fr [] [62] m (kA (kA m 62 (up (m.2.1 62) 4 (m.2.1 62 4))) 62 (up (up (m.2.1 62) 4 (m.2.1 62 4)) 5 z125)) := fr_A hf123 62 _ rfl
                      refine g_aload_n (n := 0) rfl rfl ?_
                      refine g_getf (v := vR 62) rfl (kl_61 _) rfl ?_
                      refine g_iload_n (n := 1) rfl rfl ?_
                      refine g_iconst rfl ?_
                      refine g_iaddE (z := 2) (by decide) rfl ?_
                      refine g_iload_n (n := 2) rfl rfl ?_
                      refine g_iaddE (z := 3) (by decide) rfl ?_
                      refine g_iload_n (n := 3) rfl rfl ?_
                      refine g_if_ne (by decide) (by decide) rfl ?_ ?_
                      · intro k132
                        refine g_iload_n (n := 3) rfl rfl ?_
                        refine g_iconst rfl ?_
                        refine g_icmp_ne (by decide) (by decide) (by decide) (by decide) rfl ?_ ?_
                        · intro k133
                          exfalso; omega
                        · intro k134
                          refine g_iconst rfl ?_
                          refine g_goto rfl ?_
                          refine g_iAst (f := up (up (m.2.1 62) 4 (m.2.1 62 4)) 5 z125) (m' := (kA (kA (kA m 62 (up (m.2.1 62) 4 (m.2.1 62 4))) 62 (up (up (m.2.1 62) 4 (m.2.1 62 4)) 5 z125)) 62 (up (up (up (m.2.1 62) 4 (m.2.1 62 4)) 5 z125) 3 1))) rfl (kl_62 _) (by decide) (by omega) (by omega) (kA_62 _ _) ?_
                          have hm135 : kI (kA (kA (kA m 62 (up (m.2.1 62) 4 (m.2.1 62 4))) 62 (up (up (m.2.1 62) 4 (m.2.1 62 4)) 5 z125)) 62 (up (up (up (m.2.1 62) 4 (m.2.1 62 4)) 5 z125) 3 1)) := kI_U hm130 62 rfl (show ((-2147483648) : Int) ≤ 1 by omega) (show 1 ≤ (2147483647 : Int) by omega)
                          have hf136 : fr [] [62] m (kA (kA (kA m 62 (up (m.2.1 62) 4 (m.2.1 62 4))) 62 (up (up (m.2.1 62) 4 (m.2.1 62 4)) 5 z125)) 62 (up (up (up (m.2.1 62) 4 (m.2.1 62 4)) 5 z125) 3 1)) := fr_A hf131 62 _ rfl
                          refine g_iload (n := 6) rfl rfl ?_
                          refine g_zret rfl rfl (by omega) ?_
                          refine ⟨_, _, rfl, hm135, hf136, Or.inl ⟨rfl, ?_⟩, (fun j hj => by show (up (up (up (m.2.1 62) 4 (m.2.1 62 4)) 5 z125) 3 1) j = m.2.1 62 j; rw [up_ne _ (by omega), up_ne _ (by omega), up_ne _ (by omega)])⟩
                          show stay_1 (m.1 27) (m.2.1 62 0, m.2.1 62 1, m.2.1 62 2, m.2.1 62 3, m.2.1 62 4, m.2.1 62 5, m.2.1 62 6) 2 = some (m.2.1 62 0, m.2.1 62 1, m.2.1 62 2, 1, m.2.1 62 4, z125, m.2.1 62 6)
                          simp only [h129]
                          dsimp only [stay_1]
                          repeat (split <;> try (exfalso; omega))
                          all_goals first | rfl | omega
                      · intro k137
                        exfalso; omega
                    · intro k138
                      exfalso; omega
                  · intro k139
                    exfalso; omega
                · intro k140
                  exfalso; omega
      · intro k141
        exfalso; omega
    · intro k142
      exfalso; omega
  · refine g_aload_n (n := 0) rfl rfl ?_
    refine g_getf (v := vR 62) rfl (kl_61 _) rfl ?_
    refine g_iload_n (n := 1) rfl rfl ?_
    refine g_iconst rfl ?_
    refine g_iaddE (z := 0) (by decide) rfl ?_
    refine g_iload_n (n := 2) rfl rfl ?_
    refine g_iaddE (z := 1) (by decide) rfl ?_
    refine g_ialE (f := m.2.1 62) (v := m.2.1 62 1) rfl (kl_62 _) (by decide) (by decide) (by decide) rfl ?_
    refine g_istore (n := 4) (lo' := [(0, vR 61), (1, vI 0), (2, vI 1), (3, vI 3)]) rfl rfl ?_
    refine g_aload_n (n := 0) rfl rfl ?_
    refine g_getf (v := vR 62) rfl (kl_61 _) rfl ?_
    refine g_iload_n (n := 1) rfl rfl ?_
    refine g_iconst rfl ?_
    refine g_iaddE (z := 2) (by decide) rfl ?_
    refine g_iload_n (n := 2) rfl rfl ?_
    refine g_iaddE (z := 3) (by decide) rfl ?_
    refine g_ialE (f := m.2.1 62) (v := m.2.1 62 3) rfl (kl_62 _) (by decide) (by decide) (by decide) rfl ?_
    refine g_istore (n := 5) (lo' := [(4, vI (m.2.1 62 1)), (0, vR 61), (1, vI 0), (2, vI 1), (3, vI 3)]) rfl rfl ?_
    refine g_iload_n (n := 3) rfl rfl ?_
    refine g_if_ne (by decide) (by decide) rfl ?_ ?_
    · intro k143
      refine g_iload_n (n := 3) rfl rfl ?_
      refine g_iconst rfl ?_
      refine g_icmp_ne (by decide) (by decide) (by decide) (by decide) rfl ?_ ?_
      · intro k144
        refine g_iload_n (n := 3) rfl rfl ?_
        refine g_iconst rfl ?_
        refine g_icmp_ne (by decide) (by decide) (by decide) (by decide) rfl ?_ ?_
        · intro k145
          refine g_iload (n := 5) rfl rfl ?_
          refine g_iconst rfl ?_
          refine g_icmp_ne (by omega) (by omega) (by decide) (by decide) rfl ?_ ?_
          · intro k146
            refine g_iconst rfl ?_
            refine g_istore (n := 6) (lo' := [(5, vI (m.2.1 62 3)), (4, vI (m.2.1 62 1)), (0, vR 61), (1, vI 0), (2, vI 1), (3, vI 3)]) rfl rfl ?_
            refine g_iload (n := 6) rfl rfl ?_
            refine g_if_eq (by decide) (by decide) rfl ?_ ?_
            · intro k147
              refine g_iload (n := 6) rfl rfl ?_
              refine g_zret rfl rfl (by omega) ?_
              refine ⟨_, _, rfl, hm, hf0, Or.inr ⟨rfl, ?_, rfl⟩, fun j hj => rfl⟩
              show stay_1 (m.1 27) (m.2.1 62 0, m.2.1 62 1, m.2.1 62 2, m.2.1 62 3, m.2.1 62 4, m.2.1 62 5, m.2.1 62 6) 3 = none
              dsimp only [stay_1]
              repeat (split <;> try (exfalso; omega))
              all_goals first | rfl | omega
            · intro k148
              exfalso; omega
          · intro k149
            refine g_aload_n (n := 0) rfl rfl ?_
            refine g_getf (v := vR 62) rfl (kl_61 _) rfl ?_
            refine g_iload_n (n := 1) rfl rfl ?_
            refine g_iconst rfl ?_
            refine g_iaddE (z := 5) (by decide) rfl ?_
            refine g_ialE (f := m.2.1 62) (v := m.2.1 62 5) rfl (kl_62 _) (by decide) (by decide) (by decide) rfl ?_
            refine g_iload (n := 4) rfl rfl ?_
            refine c_sI (ps := [vI (m.2.1 62 1), vI (m.2.1 62 5)]) (r := []) (as := [vI (m.2.1 62 5), vI (m.2.1 62 1)]) (cs' := 0) (sl' := 0) rfl rfl rfl rfl rfl rfl (d_has (d := d - 1) (q := q - (2 + 19)) (by omega) (by omega) hm (s := m.2.1 62 5) (k := m.2.1 62 1) (show (-2147483648) ≤ m.2.1 62 5 ∧ m.2.1 62 5 ≤ 2147483647 by omega) (show 0 ≤ m.2.1 62 1 ∧ m.2.1 62 1 ≤ 5 by omega)) (by omega) (show 2 + 19 ≤ q by omega) (Nat.le_of_ble_eq_true rfl) (Nat.le_of_ble_eq_true rfl) rfl rfl rfl ?_
            rintro z150 m151 ⟨rfl, p153, p154, p155⟩
            subst p153
            refine g_if_eq (by omega) (by omega) rfl ?_ ?_
            · intro k156
              refine g_iconst rfl ?_
              refine g_istore (n := 6) (lo' := [(5, vI (m.2.1 62 3)), (4, vI (m.2.1 62 1)), (0, vR 61), (1, vI 0), (2, vI 1), (3, vI 3)]) rfl rfl ?_
              refine g_iload (n := 6) rfl rfl ?_
              refine g_if_eq (by decide) (by decide) rfl ?_ ?_
              · intro k157
                refine g_iload (n := 6) rfl rfl ?_
                refine g_zret rfl rfl (by omega) ?_
                refine ⟨_, _, rfl, hm, hf0, Or.inr ⟨rfl, ?_, rfl⟩, fun j hj => rfl⟩
                show stay_1 (m.1 27) (m.2.1 62 0, m.2.1 62 1, m.2.1 62 2, m.2.1 62 3, m.2.1 62 4, m.2.1 62 5, m.2.1 62 6) 3 = none
                dsimp only [stay_1]
                repeat (split <;> try (exfalso; omega))
                all_goals first | rfl | omega
              · intro k158
                exfalso; omega
            · intro k159
              refine g_iconst rfl ?_
              refine g_goto rfl ?_
              refine g_istore (n := 6) (lo' := [(5, vI (m.2.1 62 3)), (4, vI (m.2.1 62 1)), (0, vR 61), (1, vI 0), (2, vI 1), (3, vI 3)]) rfl rfl ?_
              refine g_iload (n := 6) rfl rfl ?_
              refine g_if_eq (by decide) (by decide) rfl ?_ ?_
              · intro k160
                exfalso; omega
              · intro k161
                refine g_aload_n (n := 0) rfl rfl ?_
                refine g_getf (v := vR 62) rfl (kl_61 _) rfl ?_
                refine g_iload_n (n := 1) rfl rfl ?_
                refine g_iconst rfl ?_
                refine g_iaddE (z := 4) (by decide) rfl ?_
                refine g_iload_n (n := 3) rfl rfl ?_
                refine g_if_ne (by decide) (by decide) rfl ?_ ?_
                · intro k162
                  refine g_iload_n (n := 3) rfl rfl ?_
                  refine g_iconst rfl ?_
                  refine g_icmp_ne (by decide) (by decide) (by decide) (by decide) rfl ?_ ?_
                  · intro k163
                    refine g_aload_n (n := 0) rfl rfl ?_
                    refine g_getf (v := vR 62) rfl (kl_61 _) rfl ?_
                    refine g_iload_n (n := 1) rfl rfl ?_
                    refine g_iconst rfl ?_
                    refine g_iaddE (z := 4) (by decide) rfl ?_
                    refine g_ialE (f := m.2.1 62) (v := m.2.1 62 4) rfl (kl_62 _) (by decide) (by decide) (by decide) rfl ?_
                    refine g_iAst (f := m.2.1 62) (m' := (kA m 62 (up (m.2.1 62) 4 (m.2.1 62 4)))) rfl (kl_62 _) (by decide) (by omega) (by omega) (kA_62 _ _) ?_
                    have hm164 : kI (kA m 62 (up (m.2.1 62) 4 (m.2.1 62 4))) := kI_U hm 62 rfl (show ((-2147483648) : Int) ≤ m.2.1 62 4 by omega) (show m.2.1 62 4 ≤ (2147483647 : Int) by omega)
                    have hf165 : fr [] [62] m (kA m 62 (up (m.2.1 62) 4 (m.2.1 62 4))) := fr_A hf0 62 _ rfl
                    refine g_aload_n (n := 0) rfl rfl ?_
                    refine g_getf (v := vR 62) rfl (kl_61 _) rfl ?_
                    refine g_iload_n (n := 1) rfl rfl ?_
                    refine g_iconst rfl ?_
                    refine g_iaddE (z := 5) (by decide) rfl ?_
                    refine g_dup2 rfl rfl rfl ?_
                    refine g_ialE (f := up (m.2.1 62) 4 (m.2.1 62 4)) (v := m.2.1 62 5) rfl (kl_62 _) (by decide) (by decide) (by decide) rfl ?_
                    refine g_iload_n (n := 3) rfl rfl ?_
                    refine g_iconst rfl ?_
                    refine g_icmp_ne (by decide) (by decide) (by decide) (by decide) rfl ?_ ?_
                    · intro k166
                      exfalso; omega
                    · intro k167
                      refine g_iconst rfl ?_
                      refine g_iload (n := 4) rfl rfl ?_
                      refine g_ishl rfl ?_
                      intro z168 h169 h170 h171
                      refine g_iconst rfl ?_
                      refine g_ixor rfl ?_
                      intro z173 h174 h175 h176
                      refine g_goto rfl ?_
                      refine g_iand rfl ?_
                      intro z178 h179 h180 h181
                      have h182 : z178 = clr (m.2.1 62 5) (m.2.1 62 1) := b_clr h169 h174 h179 (by omega) (by omega) (by omega) (by omega)
                      have h183 := b_clr_rng (u := m.2.1 62 5) (r := m.2.1 62 1) (by omega) (by omega) (by omega) (by omega)
                      refine g_iAst (f := up (m.2.1 62) 4 (m.2.1 62 4)) (m' := (kA (kA m 62 (up (m.2.1 62) 4 (m.2.1 62 4))) 62 (up (up (m.2.1 62) 4 (m.2.1 62 4)) 5 z178))) rfl (kl_62 _) (by decide) (by omega) (by omega) (kA_62 _ _) ?_
                      have hm184 : kI (kA (kA m 62 (up (m.2.1 62) 4 (m.2.1 62 4))) 62 (up (up (m.2.1 62) 4 (m.2.1 62 4)) 5 z178)) := kI_U hm164 62 rfl (show ((-2147483648) : Int) ≤ z178 by omega) (show z178 ≤ (2147483647 : Int) by omega)
                      have hf185 : fr [] [62] m (kA (kA m 62 (up (m.2.1 62) 4 (m.2.1 62 4))) 62 (up (up (m.2.1 62) 4 (m.2.1 62 4)) 5 z178)) := fr_A hf165 62 _ rfl
                      refine g_aload_n (n := 0) rfl rfl ?_
                      refine g_getf (v := vR 62) rfl (kl_61 _) rfl ?_
                      refine g_iload_n (n := 1) rfl rfl ?_
                      refine g_iconst rfl ?_
                      refine g_iaddE (z := 2) (by decide) rfl ?_
                      refine g_iload_n (n := 2) rfl rfl ?_
                      refine g_iaddE (z := 3) (by decide) rfl ?_
                      refine g_iload_n (n := 3) rfl rfl ?_
                      refine g_if_ne (by decide) (by decide) rfl ?_ ?_
                      · intro k186
                        refine g_iload_n (n := 3) rfl rfl ?_
                        refine g_iconst rfl ?_
                        refine g_icmp_ne (by decide) (by decide) (by decide) (by decide) rfl ?_ ?_
                        · intro k187
                          refine g_iconst rfl ?_
                          refine g_iAst (f := up (up (m.2.1 62) 4 (m.2.1 62 4)) 5 z178) (m' := (kA (kA (kA m 62 (up (m.2.1 62) 4 (m.2.1 62 4))) 62 (up (up (m.2.1 62) 4 (m.2.1 62 4)) 5 z178)) 62 (up (up (up (m.2.1 62) 4 (m.2.1 62 4)) 5 z178) 3 0))) rfl (kl_62 _) (by decide) (by omega) (by omega) (kA_62 _ _) ?_
                          have hm188 : kI (kA (kA (kA m 62 (up (m.2.1 62) 4 (m.2.1 62 4))) 62 (up (up (m.2.1 62) 4 (m.2.1 62 4)) 5 z178)) 62 (up (up (up (m.2.1 62) 4 (m.2.1 62 4)) 5 z178) 3 0)) := kI_U hm184 62 rfl (show ((-2147483648) : Int) ≤ 0 by omega) (show 0 ≤ (2147483647 : Int) by omega)
                          have hf189 : fr [] [62] m (kA (kA (kA m 62 (up (m.2.1 62) 4 (m.2.1 62 4))) 62 (up (up (m.2.1 62) 4 (m.2.1 62 4)) 5 z178)) 62 (up (up (up (m.2.1 62) 4 (m.2.1 62 4)) 5 z178) 3 0)) := fr_A hf185 62 _ rfl
                          refine g_iload (n := 6) rfl rfl ?_
                          refine g_zret rfl rfl (by omega) ?_
                          refine ⟨_, _, rfl, hm188, hf189, Or.inl ⟨rfl, ?_⟩, (fun j hj => by show (up (up (up (m.2.1 62) 4 (m.2.1 62 4)) 5 z178) 3 0) j = m.2.1 62 j; rw [up_ne _ (by omega), up_ne _ (by omega), up_ne _ (by omega)])⟩
                          show stay_1 (m.1 27) (m.2.1 62 0, m.2.1 62 1, m.2.1 62 2, m.2.1 62 3, m.2.1 62 4, m.2.1 62 5, m.2.1 62 6) 3 = some (m.2.1 62 0, m.2.1 62 1, m.2.1 62 2, 0, m.2.1 62 4, z178, m.2.1 62 6)
                          simp only [h182]
                          dsimp only [stay_1]
                          repeat (split <;> try (exfalso; omega))
                          all_goals first | rfl | omega
                        · intro k190
                          exfalso; omega
                      · intro k191
                        exfalso; omega
                  · intro k192
                    exfalso; omega
                · intro k193
                  exfalso; omega
        · intro k194
          exfalso; omega
      · intro k195
        exfalso; omega
    · intro k196
      exfalso; omega
theorem d_hands_0_1 {V : cg_V} {d q : Nat} (hd : 1 ≤ d) (hq : 22 ≤ q) {m : kM} (hm : kI m) {e : Int} (h_e : 0 ≤ e ∧ e ≤ 9) (hw : kw (kr0 (m.2.1 62))) : cg_S V d q mX10_hands [vR 61, vI 0, vI 1, vI e] (kl m) (R_I (fun z m' => (kI m') ∧ (fr [] [62] m m') ∧ ((z = 1 ∧ hand_1 (m.2.1 66) (kr0 (m.2.1 62)) e = some (kr0 (m'.2.1 62))) ∨ (z = 0 ∧ hand_1 (m.2.1 66) (kr0 (m.2.1 62)) e = none ∧ (kr0 (m'.2.1 62)) = (kr0 (m.2.1 62)))) ∧ (∀ j : Int, (j < 0 ∨ 7 ≤ j) → m'.2.1 62 j = m.2.1 62 j))) := by
  have hf0 : fr [] [62] m m := fr_rf m
  refine cg_of (List.mem_of_getElem? (show ae_MT[148]? = some mX10_hands from rfl)) (Nat.le_of_ble_eq_true rfl) ?_
  show cg_G V mX10_hands d q _ 0 [(0, vR 61), (1, vI 0), (2, vI 1), (3, vI e)] [] (kl m) 0 0
  have w0 : 0 ≤ m.2.1 62 0 ∧ m.2.1 62 0 ≤ 5 := hw.1
  have w1 : 0 ≤ m.2.1 62 1 ∧ m.2.1 62 1 ≤ 5 := hw.2.1
  have w2 : 0 ≤ m.2.1 62 2 ∧ m.2.1 62 2 ≤ 2 := hw.2.2.1
  have w3 : 0 ≤ m.2.1 62 3 ∧ m.2.1 62 3 ≤ 2 := hw.2.2.2.1
  have w4 : (-1) ≤ m.2.1 62 4 ∧ m.2.1 62 4 ≤ 5 := hw.2.2.2.2.1
  have w5 : 0 ≤ m.2.1 62 5 ∧ m.2.1 62 5 ≤ 63 := hw.2.2.2.2.2.1
  have w6 : 0 ≤ m.2.1 62 6 ∧ m.2.1 62 6 ≤ 3 := hw.2.2.2.2.2.2.1
  have w7 : 0 ≤ m.2.1 62 4 ∨ m.2.1 62 2 = 2 ∨ m.2.1 62 3 = 2 := hw.2.2.2.2.2.2.2
  refine g_aload_n (n := 0) rfl rfl ?_
  refine g_iload_n (n := 3) rfl rfl ?_
  refine g_aload_n (n := 0) rfl rfl ?_
  refine g_getf (v := vR 62) rfl (kl_61 _) rfl ?_
  refine g_iload_n (n := 1) rfl rfl ?_
  refine g_iconst rfl ?_
  refine g_iaddE (z := 0) (by decide) rfl ?_
  refine g_iload_n (n := 2) rfl rfl ?_
  refine g_iaddE (z := 1) (by decide) rfl ?_
  refine g_ialE (f := m.2.1 62) (v := m.2.1 62 1) rfl (kl_62 _) (by decide) (by decide) (by decide) rfl ?_
  refine c_vI (i := 61) (ps := [vI (m.2.1 62 1), vI e]) (r := []) (as := [vR 61, vI e, vI (m.2.1 62 1)]) (cs' := 0) (sl' := 0) rfl rfl rfl rfl rfl rfl (kl_61 _) (d_behind (d := d - 1) (q := q - (3 + 19)) (by omega) (by omega) hm (e := e) (r := m.2.1 62 1) (show 0 ≤ e ∧ e ≤ 9 by omega) (show (-2147483648) ≤ m.2.1 62 1 ∧ m.2.1 62 1 ≤ 2147483647 by omega)) (by omega) (show 3 + 19 ≤ q by omega) (Nat.le_of_ble_eq_true rfl) (Nat.le_of_ble_eq_true rfl) rfl rfl rfl ?_
  rintro z1 m2 ⟨rfl, p4, p5, p6⟩
  subst p4
  refine g_istore (n := 4) (lo' := [(0, vR 61), (1, vI 0), (2, vI 1), (3, vI e)]) rfl rfl ?_
  refine g_aload_n (n := 0) rfl rfl ?_
  refine g_getf (v := vR 62) rfl (kl_61 _) rfl ?_
  refine g_iload_n (n := 1) rfl rfl ?_
  refine g_iconst rfl ?_
  refine g_iaddE (z := 2) (by decide) rfl ?_
  refine g_iload_n (n := 2) rfl rfl ?_
  refine g_iaddE (z := 3) (by decide) rfl ?_
  refine g_ialE (f := m.2.1 62) (v := m.2.1 62 3) rfl (kl_62 _) (by decide) (by decide) (by decide) rfl ?_
  refine g_iconst rfl ?_
  refine g_icmp_ne (by omega) (by omega) (by decide) (by decide) rfl ?_ ?_
  · intro k7
    refine g_iconst rfl ?_
    refine g_zret rfl rfl (by omega) ?_
    refine ⟨_, _, rfl, hm, hf0, Or.inr ⟨rfl, ?_, rfl⟩, fun j hj => rfl⟩
    show hand_1 (m.2.1 66) (m.2.1 62 0, m.2.1 62 1, m.2.1 62 2, m.2.1 62 3, m.2.1 62 4, m.2.1 62 5, m.2.1 62 6) e = none
    dsimp only [hand_1]
    repeat (split <;> try (exfalso; omega))
    all_goals first | rfl | omega
  · intro k8
    refine g_iload (n := 4) rfl rfl ?_
    refine g_iconst rfl ?_
    refine g_icmp_eq (by omega) (by omega) (by decide) (by decide) rfl ?_ ?_
    · intro k9
      refine g_iconst rfl ?_
      refine g_zret rfl rfl (by omega) ?_
      refine ⟨_, _, rfl, hm, hf0, Or.inr ⟨rfl, ?_, rfl⟩, fun j hj => rfl⟩
      show hand_1 (m.2.1 66) (m.2.1 62 0, m.2.1 62 1, m.2.1 62 2, m.2.1 62 3, m.2.1 62 4, m.2.1 62 5, m.2.1 62 6) e = none
      dsimp only [hand_1]
      repeat (split <;> try (exfalso; omega))
      all_goals first | rfl | omega
    · intro k10
      refine g_aload_n (n := 0) rfl rfl ?_
      refine g_getf (v := vR 66) rfl (kl_61 _) rfl ?_
      refine g_iconst rfl ?_
      refine g_iload_n (n := 3) rfl rfl ?_
      refine g_imul rfl ?_
      refine g_iconst rfl ?_
      refine g_iadd rfl ?_
      have h11 : 0 ≤ m.2.1 66 ((4 * e) + 3) ∧ m.2.1 66 ((4 * e) + 3) ≤ 5 := hm.2 66 ((4 * e) + 3) (by omega) (show ((4 * e) + 3) < (40 : Int) by omega)
      refine g_iald (f := m.2.1 66) rfl (kl_66 _) (by decide) (by omega) (by omega) ?_
      refine g_if_ne (by omega) (by omega) rfl ?_ ?_
      · intro k12
        refine g_aload_n (n := 0) rfl rfl ?_
        refine g_getf (v := vR 62) rfl (kl_61 _) rfl ?_
        refine g_iload_n (n := 1) rfl rfl ?_
        refine g_iconst rfl ?_
        refine g_iaddE (z := 5) (by decide) rfl ?_
        refine g_ialE (f := m.2.1 62) (v := m.2.1 62 5) rfl (kl_62 _) (by decide) (by decide) (by decide) rfl ?_
        refine g_iload (n := 4) rfl rfl ?_
        refine c_sI (ps := [vI (beh (m.2.1 66) e (m.2.1 62 1)), vI (m.2.1 62 5)]) (r := []) (as := [vI (m.2.1 62 5), vI (beh (m.2.1 66) e (m.2.1 62 1))]) (cs' := 0) (sl' := 0) rfl rfl rfl rfl rfl rfl (d_has (d := d - 1) (q := q - (2 + 19)) (by omega) (by omega) hm (s := m.2.1 62 5) (k := (beh (m.2.1 66) e (m.2.1 62 1))) (show (-2147483648) ≤ m.2.1 62 5 ∧ m.2.1 62 5 ≤ 2147483647 by omega) (show 0 ≤ (beh (m.2.1 66) e (m.2.1 62 1)) ∧ (beh (m.2.1 66) e (m.2.1 62 1)) ≤ 5 by omega)) (by omega) (show 2 + 19 ≤ q by omega) (Nat.le_of_ble_eq_true rfl) (Nat.le_of_ble_eq_true rfl) rfl rfl rfl ?_
        rintro z13 m14 ⟨rfl, p16, p17, p18⟩
        subst p16
        refine g_istore (n := 5) (lo' := [(4, vI (beh (m.2.1 66) e (m.2.1 62 1))), (0, vR 61), (1, vI 0), (2, vI 1), (3, vI e)]) rfl rfl ?_
        refine g_iconst rfl ?_
        refine g_iload_n (n := 2) rfl rfl ?_
        refine g_isubE (z := 0) (by decide) rfl ?_
        refine g_istore (n := 6) (lo' := [(5, vI (hb (m.2.1 62 5) (beh (m.2.1 66) e (m.2.1 62 1)))), (4, vI (beh (m.2.1 66) e (m.2.1 62 1))), (0, vR 61), (1, vI 0), (2, vI 1), (3, vI e)]) rfl rfl ?_
        refine g_iload (n := 5) rfl rfl ?_
        refine g_if_ne (by omega) (by omega) rfl ?_ ?_
        · intro k19
          refine g_aload_n (n := 0) rfl rfl ?_
          refine g_getf (v := vR 62) rfl (kl_61 _) rfl ?_
          refine g_iload_n (n := 1) rfl rfl ?_
          refine g_iconst rfl ?_
          refine g_iaddE (z := 5) (by decide) rfl ?_
          refine g_dup2 rfl rfl rfl ?_
          refine g_ialE (f := m.2.1 62) (v := m.2.1 62 5) rfl (kl_62 _) (by decide) (by decide) (by decide) rfl ?_
          refine g_iload (n := 5) rfl rfl ?_
          refine g_if_eq (by omega) (by omega) rfl ?_ ?_
          · intro k20
            exfalso; omega
          · intro k21
            refine g_iconst rfl ?_
            refine g_iload (n := 4) rfl rfl ?_
            refine g_ishl rfl ?_
            intro z22 h23 h24 h25
            refine g_goto rfl ?_
            refine g_iconst rfl ?_
            refine g_ixor rfl ?_
            intro z27 h28 h29 h30
            refine g_iand rfl ?_
            intro z32 h33 h34 h35
            have h36 : z32 = clr (m.2.1 62 5) (beh (m.2.1 66) e (m.2.1 62 1)) := b_clr h23 h28 h33 (by omega) (by omega) (by omega) (by omega)
            have h37 := b_clr_rng (u := m.2.1 62 5) (r := (beh (m.2.1 66) e (m.2.1 62 1))) (by omega) (by omega) (by omega) (by omega)
            refine g_iAst (f := m.2.1 62) (m' := (kA m 62 (up (m.2.1 62) 5 z32))) rfl (kl_62 _) (by decide) (by omega) (by omega) (kA_62 _ _) ?_
            have hm38 : kI (kA m 62 (up (m.2.1 62) 5 z32)) := kI_U hm 62 rfl (show ((-2147483648) : Int) ≤ z32 by omega) (show z32 ≤ (2147483647 : Int) by omega)
            have hf39 : fr [] [62] m (kA m 62 (up (m.2.1 62) 5 z32)) := fr_A hf0 62 _ rfl
            refine g_aload_n (n := 0) rfl rfl ?_
            refine g_getf (v := vR 62) rfl (kl_61 _) rfl ?_
            refine g_iload_n (n := 1) rfl rfl ?_
            refine g_iconst rfl ?_
            refine g_iaddE (z := 2) (by decide) rfl ?_
            refine g_iload (n := 6) rfl rfl ?_
            refine g_iaddE (z := 2) (by decide) rfl ?_
            refine g_iload (n := 5) rfl rfl ?_
            refine g_if_eq (by omega) (by omega) rfl ?_ ?_
            · intro k40
              exfalso; omega
            · intro k41
              refine g_aload_n (n := 0) rfl rfl ?_
              refine g_getf (v := vR 62) rfl (kl_61 _) rfl ?_
              refine g_iload_n (n := 1) rfl rfl ?_
              refine g_iconst rfl ?_
              refine g_iaddE (z := 2) (by decide) rfl ?_
              refine g_iload (n := 6) rfl rfl ?_
              refine g_iaddE (z := 2) (by decide) rfl ?_
              refine g_ialE (f := up (m.2.1 62) 5 z32) (v := m.2.1 62 2) rfl (kl_62 _) (by decide) (by decide) (by decide) rfl ?_
              refine g_goto rfl ?_
              refine g_iAst (f := up (m.2.1 62) 5 z32) (m' := (kA (kA m 62 (up (m.2.1 62) 5 z32)) 62 (up (up (m.2.1 62) 5 z32) 2 (m.2.1 62 2)))) rfl (kl_62 _) (by decide) (by omega) (by omega) (kA_62 _ _) ?_
              have hm42 : kI (kA (kA m 62 (up (m.2.1 62) 5 z32)) 62 (up (up (m.2.1 62) 5 z32) 2 (m.2.1 62 2))) := kI_U hm38 62 rfl (show ((-2147483648) : Int) ≤ m.2.1 62 2 by omega) (show m.2.1 62 2 ≤ (2147483647 : Int) by omega)
              have hf43 : fr [] [62] m (kA (kA m 62 (up (m.2.1 62) 5 z32)) 62 (up (up (m.2.1 62) 5 z32) 2 (m.2.1 62 2))) := fr_A hf39 62 _ rfl
              refine g_aload_n (n := 0) rfl rfl ?_
              refine g_getf (v := vR 62) rfl (kl_61 _) rfl ?_
              refine g_iload_n (n := 1) rfl rfl ?_
              refine g_iconst rfl ?_
              refine g_iaddE (z := 2) (by decide) rfl ?_
              refine g_iload_n (n := 2) rfl rfl ?_
              refine g_iaddE (z := 3) (by decide) rfl ?_
              refine g_iconst rfl ?_
              refine g_iAst (f := up (up (m.2.1 62) 5 z32) 2 (m.2.1 62 2)) (m' := (kA (kA (kA m 62 (up (m.2.1 62) 5 z32)) 62 (up (up (m.2.1 62) 5 z32) 2 (m.2.1 62 2))) 62 (up (up (up (m.2.1 62) 5 z32) 2 (m.2.1 62 2)) 3 0))) rfl (kl_62 _) (by decide) (by omega) (by omega) (kA_62 _ _) ?_
              have hm44 : kI (kA (kA (kA m 62 (up (m.2.1 62) 5 z32)) 62 (up (up (m.2.1 62) 5 z32) 2 (m.2.1 62 2))) 62 (up (up (up (m.2.1 62) 5 z32) 2 (m.2.1 62 2)) 3 0)) := kI_U hm42 62 rfl (show ((-2147483648) : Int) ≤ 0 by omega) (show 0 ≤ (2147483647 : Int) by omega)
              have hf45 : fr [] [62] m (kA (kA (kA m 62 (up (m.2.1 62) 5 z32)) 62 (up (up (m.2.1 62) 5 z32) 2 (m.2.1 62 2))) 62 (up (up (up (m.2.1 62) 5 z32) 2 (m.2.1 62 2)) 3 0)) := fr_A hf43 62 _ rfl
              refine g_iconst rfl ?_
              refine g_zret rfl rfl (by omega) ?_
              refine ⟨_, _, rfl, hm44, hf45, Or.inl ⟨rfl, ?_⟩, (fun j hj => by show (up (up (up (m.2.1 62) 5 z32) 2 (m.2.1 62 2)) 3 0) j = m.2.1 62 j; rw [up_ne _ (by omega), up_ne _ (by omega), up_ne _ (by omega)])⟩
              show hand_1 (m.2.1 66) (m.2.1 62 0, m.2.1 62 1, m.2.1 62 2, m.2.1 62 3, m.2.1 62 4, m.2.1 62 5, m.2.1 62 6) e = some (m.2.1 62 0, m.2.1 62 1, m.2.1 62 2, 0, m.2.1 62 4, z32, m.2.1 62 6)
              simp only [h36]
              dsimp only [hand_1]
              repeat (split <;> try (exfalso; omega))
              all_goals first | rfl | omega
        · intro k46
          refine g_aload_n (n := 0) rfl rfl ?_
          refine g_getf (v := vR 62) rfl (kl_61 _) rfl ?_
          refine g_iload_n (n := 1) rfl rfl ?_
          refine g_iconst rfl ?_
          refine g_iaddE (z := 0) (by decide) rfl ?_
          refine g_iload (n := 6) rfl rfl ?_
          refine g_iaddE (z := 0) (by decide) rfl ?_
          refine g_ialE (f := m.2.1 62) (v := m.2.1 62 0) rfl (kl_62 _) (by decide) (by decide) (by decide) rfl ?_
          refine g_iload (n := 4) rfl rfl ?_
          refine g_icmp_ne (by omega) (by omega) (by omega) (by omega) rfl ?_ ?_
          · intro k47
            refine g_iconst rfl ?_
            refine g_zret rfl rfl (by omega) ?_
            refine ⟨_, _, rfl, hm, hf0, Or.inr ⟨rfl, ?_, rfl⟩, fun j hj => rfl⟩
            show hand_1 (m.2.1 66) (m.2.1 62 0, m.2.1 62 1, m.2.1 62 2, m.2.1 62 3, m.2.1 62 4, m.2.1 62 5, m.2.1 62 6) e = none
            dsimp only [hand_1]
            repeat (split <;> try (exfalso; omega))
            all_goals first | rfl | omega
          · intro k48
            refine g_aload_n (n := 0) rfl rfl ?_
            refine g_getf (v := vR 62) rfl (kl_61 _) rfl ?_
            refine g_iload_n (n := 1) rfl rfl ?_
            refine g_iconst rfl ?_
            refine g_iaddE (z := 2) (by decide) rfl ?_
            refine g_iload (n := 6) rfl rfl ?_
            refine g_iaddE (z := 2) (by decide) rfl ?_
            refine g_ialE (f := m.2.1 62) (v := m.2.1 62 2) rfl (kl_62 _) (by decide) (by decide) (by decide) rfl ?_
            refine g_if_eq (by omega) (by omega) rfl ?_ ?_
            · intro k49
              refine g_aload_n (n := 0) rfl rfl ?_
              refine g_getf (v := vR 62) rfl (kl_61 _) rfl ?_
              refine g_iload_n (n := 1) rfl rfl ?_
              refine g_iconst rfl ?_
              refine g_iaddE (z := 5) (by decide) rfl ?_
              refine g_dup2 rfl rfl rfl ?_
              refine g_ialE (f := m.2.1 62) (v := m.2.1 62 5) rfl (kl_62 _) (by decide) (by decide) (by decide) rfl ?_
              refine g_iload (n := 5) rfl rfl ?_
              refine g_if_eq (by omega) (by omega) rfl ?_ ?_
              · intro k50
                refine g_iconst rfl ?_
                refine g_iconst rfl ?_
                refine g_ixor rfl ?_
                intro z51 h52 h53 h54
                have h55 : z51 = (-1) := h52.trans (by decide)
                subst h55
                refine g_iand rfl ?_
                intro z56 h57 h58 h59
                have h60 : z56 = m.2.1 62 5 := b_andm1 h57 (by omega) (by omega)
                refine g_iAst (f := m.2.1 62) (m' := (kA m 62 (up (m.2.1 62) 5 z56))) rfl (kl_62 _) (by decide) (by omega) (by omega) (kA_62 _ _) ?_
                have hm61 : kI (kA m 62 (up (m.2.1 62) 5 z56)) := kI_U hm 62 rfl (show ((-2147483648) : Int) ≤ z56 by omega) (show z56 ≤ (2147483647 : Int) by omega)
                have hf62 : fr [] [62] m (kA m 62 (up (m.2.1 62) 5 z56)) := fr_A hf0 62 _ rfl
                refine g_aload_n (n := 0) rfl rfl ?_
                refine g_getf (v := vR 62) rfl (kl_61 _) rfl ?_
                refine g_iload_n (n := 1) rfl rfl ?_
                refine g_iconst rfl ?_
                refine g_iaddE (z := 2) (by decide) rfl ?_
                refine g_iload (n := 6) rfl rfl ?_
                refine g_iaddE (z := 2) (by decide) rfl ?_
                refine g_iload (n := 5) rfl rfl ?_
                refine g_if_eq (by omega) (by omega) rfl ?_ ?_
                · intro k63
                  refine g_iconst rfl ?_
                  refine g_iAst (f := up (m.2.1 62) 5 z56) (m' := (kA (kA m 62 (up (m.2.1 62) 5 z56)) 62 (up (up (m.2.1 62) 5 z56) 2 1))) rfl (kl_62 _) (by decide) (by omega) (by omega) (kA_62 _ _) ?_
                  have hm64 : kI (kA (kA m 62 (up (m.2.1 62) 5 z56)) 62 (up (up (m.2.1 62) 5 z56) 2 1)) := kI_U hm61 62 rfl (show ((-2147483648) : Int) ≤ 1 by omega) (show 1 ≤ (2147483647 : Int) by omega)
                  have hf65 : fr [] [62] m (kA (kA m 62 (up (m.2.1 62) 5 z56)) 62 (up (up (m.2.1 62) 5 z56) 2 1)) := fr_A hf62 62 _ rfl
                  refine g_aload_n (n := 0) rfl rfl ?_
                  refine g_getf (v := vR 62) rfl (kl_61 _) rfl ?_
                  refine g_iload_n (n := 1) rfl rfl ?_
                  refine g_iconst rfl ?_
                  refine g_iaddE (z := 2) (by decide) rfl ?_
                  refine g_iload_n (n := 2) rfl rfl ?_
                  refine g_iaddE (z := 3) (by decide) rfl ?_
                  refine g_iconst rfl ?_
                  refine g_iAst (f := up (up (m.2.1 62) 5 z56) 2 1) (m' := (kA (kA (kA m 62 (up (m.2.1 62) 5 z56)) 62 (up (up (m.2.1 62) 5 z56) 2 1)) 62 (up (up (up (m.2.1 62) 5 z56) 2 1) 3 0))) rfl (kl_62 _) (by decide) (by omega) (by omega) (kA_62 _ _) ?_
                  have hm66 : kI (kA (kA (kA m 62 (up (m.2.1 62) 5 z56)) 62 (up (up (m.2.1 62) 5 z56) 2 1)) 62 (up (up (up (m.2.1 62) 5 z56) 2 1) 3 0)) := kI_U hm64 62 rfl (show ((-2147483648) : Int) ≤ 0 by omega) (show 0 ≤ (2147483647 : Int) by omega)
                  have hf67 : fr [] [62] m (kA (kA (kA m 62 (up (m.2.1 62) 5 z56)) 62 (up (up (m.2.1 62) 5 z56) 2 1)) 62 (up (up (up (m.2.1 62) 5 z56) 2 1) 3 0)) := fr_A hf65 62 _ rfl
                  refine g_iconst rfl ?_
                  refine g_zret rfl rfl (by omega) ?_
                  refine ⟨_, _, rfl, hm66, hf67, Or.inl ⟨rfl, ?_⟩, (fun j hj => by show (up (up (up (m.2.1 62) 5 z56) 2 1) 3 0) j = m.2.1 62 j; rw [up_ne _ (by omega), up_ne _ (by omega), up_ne _ (by omega)])⟩
                  show hand_1 (m.2.1 66) (m.2.1 62 0, m.2.1 62 1, m.2.1 62 2, m.2.1 62 3, m.2.1 62 4, m.2.1 62 5, m.2.1 62 6) e = some (m.2.1 62 0, m.2.1 62 1, 1, 0, m.2.1 62 4, z56, m.2.1 62 6)
                  simp only [h60]
                  dsimp only [hand_1]
                  repeat (split <;> try (exfalso; omega))
                  all_goals first | rfl | omega
                · intro k68
                  exfalso; omega
              · intro k69
                exfalso; omega
            · intro k70
              refine g_iconst rfl ?_
              refine g_zret rfl rfl (by omega) ?_
              refine ⟨_, _, rfl, hm, hf0, Or.inr ⟨rfl, ?_, rfl⟩, fun j hj => rfl⟩
              show hand_1 (m.2.1 66) (m.2.1 62 0, m.2.1 62 1, m.2.1 62 2, m.2.1 62 3, m.2.1 62 4, m.2.1 62 5, m.2.1 62 6) e = none
              dsimp only [hand_1]
              repeat (split <;> try (exfalso; omega))
              all_goals first | rfl | omega
      · intro k71
        refine g_iconst rfl ?_
        refine g_zret rfl rfl (by omega) ?_
        refine ⟨_, _, rfl, hm, hf0, Or.inr ⟨rfl, ?_, rfl⟩, fun j hj => rfl⟩
        show hand_1 (m.2.1 66) (m.2.1 62 0, m.2.1 62 1, m.2.1 62 2, m.2.1 62 3, m.2.1 62 4, m.2.1 62 5, m.2.1 62 6) e = none
        dsimp only [hand_1]
        repeat (split <;> try (exfalso; omega))
        all_goals first | rfl | omega
theorem d_goS_0_1 {V : cg_V} {d q : Nat} (hd : 1 ≤ d) (hq : 24 ≤ q) {m : kM} (hm : kI m) {e : Int} (h_e : 0 ≤ e ∧ e ≤ 9) (hw : kw (kr0 (m.2.1 62))) : cg_S V d q mX10_goes [vR 61, vI 0, vI 1, vI e, vI 14] (kl m) (R_I (fun z m' => (kI m') ∧ (fr [] [62] m m') ∧ ((z = 1 ∧ goS_1 (m.2.1 66) (kr0 (m.2.1 62)) e = some (kr0 (m'.2.1 62))) ∨ (z = 0 ∧ goS_1 (m.2.1 66) (kr0 (m.2.1 62)) e = none ∧ (kr0 (m'.2.1 62)) = (kr0 (m.2.1 62)))) ∧ (∀ j : Int, (j < 0 ∨ 7 ≤ j) → m'.2.1 62 j = m.2.1 62 j))) := by
  have hf0 : fr [] [62] m m := fr_rf m
  refine cg_of (List.mem_of_getElem? (show ae_MT[149]? = some mX10_goes from rfl)) (Nat.le_of_ble_eq_true rfl) ?_
  show cg_G V mX10_goes d q _ 0 [(0, vR 61), (1, vI 0), (2, vI 1), (3, vI e), (4, vI 14)] [] (kl m) 0 0
  have w0 : 0 ≤ m.2.1 62 0 ∧ m.2.1 62 0 ≤ 5 := hw.1
  have w1 : 0 ≤ m.2.1 62 1 ∧ m.2.1 62 1 ≤ 5 := hw.2.1
  have w2 : 0 ≤ m.2.1 62 2 ∧ m.2.1 62 2 ≤ 2 := hw.2.2.1
  have w3 : 0 ≤ m.2.1 62 3 ∧ m.2.1 62 3 ≤ 2 := hw.2.2.2.1
  have w4 : (-1) ≤ m.2.1 62 4 ∧ m.2.1 62 4 ≤ 5 := hw.2.2.2.2.1
  have w5 : 0 ≤ m.2.1 62 5 ∧ m.2.1 62 5 ≤ 63 := hw.2.2.2.2.2.1
  have w6 : 0 ≤ m.2.1 62 6 ∧ m.2.1 62 6 ≤ 3 := hw.2.2.2.2.2.2.1
  have w7 : 0 ≤ m.2.1 62 4 ∨ m.2.1 62 2 = 2 ∨ m.2.1 62 3 = 2 := hw.2.2.2.2.2.2.2
  refine g_aload_n (n := 0) rfl rfl ?_
  refine g_getf (v := vR 62) rfl (kl_61 _) rfl ?_
  refine g_iload_n (n := 1) rfl rfl ?_
  refine g_iconst rfl ?_
  refine g_iaddE (z := 0) (by decide) rfl ?_
  refine g_iload_n (n := 2) rfl rfl ?_
  refine g_iaddE (z := 1) (by decide) rfl ?_
  refine g_ialE (f := m.2.1 62) (v := m.2.1 62 1) rfl (kl_62 _) (by decide) (by decide) (by decide) rfl ?_
  refine g_istore (n := 5) (lo' := [(0, vR 61), (1, vI 0), (2, vI 1), (3, vI e), (4, vI 14)]) rfl rfl ?_
  refine g_aload_n (n := 0) rfl rfl ?_
  refine g_iload_n (n := 3) rfl rfl ?_
  refine g_iload (n := 5) rfl rfl ?_
  refine c_vI (i := 61) (ps := [vI (m.2.1 62 1), vI e]) (r := []) (as := [vR 61, vI e, vI (m.2.1 62 1)]) (cs' := 0) (sl' := 0) rfl rfl rfl rfl rfl rfl (kl_61 _) (d_behind (d := d - 1) (q := q - (3 + 19)) (by omega) (by omega) hm (e := e) (r := m.2.1 62 1) (show 0 ≤ e ∧ e ≤ 9 by omega) (show (-2147483648) ≤ m.2.1 62 1 ∧ m.2.1 62 1 ≤ 2147483647 by omega)) (by omega) (show 3 + 19 ≤ q by omega) (Nat.le_of_ble_eq_true rfl) (Nat.le_of_ble_eq_true rfl) rfl rfl rfl ?_
  rintro z1 m2 ⟨rfl, p4, p5, p6⟩
  subst p4
  refine g_istore (n := 6) (lo' := [(5, vI (m.2.1 62 1)), (0, vR 61), (1, vI 0), (2, vI 1), (3, vI e), (4, vI 14)]) rfl rfl ?_
  refine g_iconst rfl ?_
  refine g_iload_n (n := 2) rfl rfl ?_
  refine g_isubE (z := 0) (by decide) rfl ?_
  refine g_istore (n := 7) (lo' := [(6, vI (beh (m.2.1 66) e (m.2.1 62 1))), (5, vI (m.2.1 62 1)), (0, vR 61), (1, vI 0), (2, vI 1), (3, vI e), (4, vI 14)]) rfl rfl ?_
  refine g_iload (n := 4) rfl rfl ?_
  refine g_bipush (by decide) rfl ?_
  refine g_icmp_ne (by decide) (by decide) (by decide) (by decide) rfl ?_ ?_
  · intro k7
    refine g_iconst rfl ?_
    refine g_istore (n := 8) (lo' := [(7, vI 0), (6, vI (beh (m.2.1 66) e (m.2.1 62 1))), (5, vI (m.2.1 62 1)), (0, vR 61), (1, vI 0), (2, vI 1), (3, vI e), (4, vI 14)]) rfl rfl ?_
    refine g_iload (n := 4) rfl rfl ?_
    refine g_bipush (by decide) rfl ?_
    refine g_icmp_ne (by decide) (by decide) (by decide) (by decide) rfl ?_ ?_
    · intro k8
      refine g_aload_n (n := 0) rfl rfl ?_
      refine g_getf (v := vR 62) rfl (kl_61 _) rfl ?_
      refine g_iload_n (n := 1) rfl rfl ?_
      refine g_iconst rfl ?_
      refine g_iaddE (z := 2) (by decide) rfl ?_
      refine g_iload_n (n := 2) rfl rfl ?_
      refine g_iaddE (z := 3) (by decide) rfl ?_
      refine g_ialE (f := m.2.1 62) (v := m.2.1 62 3) rfl (kl_62 _) (by decide) (by decide) (by decide) rfl ?_
      refine g_iconst rfl ?_
      refine g_icmp_ne (by omega) (by omega) (by decide) (by decide) rfl ?_ ?_
      · intro k9
        refine g_iconst rfl ?_
        refine g_istore (n := 9) (lo' := [(8, vI 0), (7, vI 0), (6, vI (beh (m.2.1 66) e (m.2.1 62 1))), (5, vI (m.2.1 62 1)), (0, vR 61), (1, vI 0), (2, vI 1), (3, vI e), (4, vI 14)]) rfl rfl ?_
        refine g_iload (n := 6) rfl rfl ?_
        refine g_iconst rfl ?_
        refine g_icmp_eq (by omega) (by omega) (by decide) (by decide) rfl ?_ ?_
        · intro k10
          refine g_iconst rfl ?_
          refine g_zret rfl rfl (by omega) ?_
          refine ⟨_, _, rfl, hm, hf0, Or.inr ⟨rfl, ?_, rfl⟩, fun j hj => rfl⟩
          show goS_1 (m.2.1 66) (m.2.1 62 0, m.2.1 62 1, m.2.1 62 2, m.2.1 62 3, m.2.1 62 4, m.2.1 62 5, m.2.1 62 6) e = none
          dsimp only [goS_1]
          repeat (split <;> try (exfalso; omega))
          all_goals first | rfl | omega
        · intro k11
          refine g_iload (n := 9) rfl rfl ?_
          refine g_if_eq (by decide) (by decide) rfl ?_ ?_
          · intro k12
            refine g_iconst rfl ?_
            refine g_zret rfl rfl (by omega) ?_
            refine ⟨_, _, rfl, hm, hf0, Or.inr ⟨rfl, ?_, rfl⟩, fun j hj => rfl⟩
            show goS_1 (m.2.1 66) (m.2.1 62 0, m.2.1 62 1, m.2.1 62 2, m.2.1 62 3, m.2.1 62 4, m.2.1 62 5, m.2.1 62 6) e = none
            dsimp only [goS_1]
            repeat (split <;> try (exfalso; omega))
            all_goals first | rfl | omega
          · intro k13
            exfalso; omega
      · intro k14
        refine g_iconst rfl ?_
        refine g_goto rfl ?_
        refine g_istore (n := 9) (lo' := [(8, vI 0), (7, vI 0), (6, vI (beh (m.2.1 66) e (m.2.1 62 1))), (5, vI (m.2.1 62 1)), (0, vR 61), (1, vI 0), (2, vI 1), (3, vI e), (4, vI 14)]) rfl rfl ?_
        refine g_iload (n := 6) rfl rfl ?_
        refine g_iconst rfl ?_
        refine g_icmp_eq (by omega) (by omega) (by decide) (by decide) rfl ?_ ?_
        · intro k15
          refine g_iconst rfl ?_
          refine g_zret rfl rfl (by omega) ?_
          refine ⟨_, _, rfl, hm, hf0, Or.inr ⟨rfl, ?_, rfl⟩, fun j hj => rfl⟩
          show goS_1 (m.2.1 66) (m.2.1 62 0, m.2.1 62 1, m.2.1 62 2, m.2.1 62 3, m.2.1 62 4, m.2.1 62 5, m.2.1 62 6) e = none
          dsimp only [goS_1]
          repeat (split <;> try (exfalso; omega))
          all_goals first | rfl | omega
        · intro k16
          refine g_iload (n := 9) rfl rfl ?_
          refine g_if_eq (by decide) (by decide) rfl ?_ ?_
          · intro k17
            exfalso; omega
          · intro k18
            refine g_iload (n := 8) rfl rfl ?_
            refine g_if_eq (by decide) (by decide) rfl ?_ ?_
            · intro k19
              refine g_aload_n (n := 0) rfl rfl ?_
              refine g_iload_n (n := 3) rfl rfl ?_
              refine g_iload (n := 5) rfl rfl ?_
              refine g_iload (n := 4) rfl rfl ?_
              refine g_iload (n := 8) rfl rfl ?_
              refine g_if_eq (by decide) (by decide) rfl ?_ ?_
              · intro k20
                refine g_iconst rfl ?_
                refine c_vI (i := 61) (ps := [vI 0, vI 14, vI (m.2.1 62 1), vI e]) (r := []) (as := [vR 61, vI e, vI (m.2.1 62 1), vI 14, vI 0]) (cs' := 0) (sl' := 0) rfl rfl rfl rfl rfl rfl (kl_61 _) (d_opens (d := d - 1) (q := q - (5 + 19)) (by omega) (by omega) hm (e := e) (r := m.2.1 62 1) (v := 14) (l := 0) (show 0 ≤ e ∧ e ≤ 9 by omega) (show (-2147483648) ≤ m.2.1 62 1 ∧ m.2.1 62 1 ≤ 2147483647 by omega) (show (-2147483648) ≤ 14 ∧ 14 ≤ 2147483647 by omega) (show 0 ≤ 0 ∧ 0 ≤ 1 by omega)) (by omega) (show 5 + 19 ≤ q by omega) (Nat.le_of_ble_eq_true rfl) (Nat.le_of_ble_eq_true rfl) rfl rfl rfl ?_
                rintro z21 m22 ⟨rfl, p24, p25⟩
                subst p24
                refine g_if_ne (by omega) (by omega) rfl ?_ ?_
                · intro k26
                  refine g_aload_n (n := 0) rfl rfl ?_
                  refine g_getf (v := vR 62) rfl (kl_61 _) rfl ?_
                  refine g_iload_n (n := 1) rfl rfl ?_
                  refine g_iconst rfl ?_
                  refine g_iaddE (z := 0) (by decide) rfl ?_
                  refine g_iload_n (n := 2) rfl rfl ?_
                  refine g_iaddE (z := 1) (by decide) rfl ?_
                  refine g_iload (n := 6) rfl rfl ?_
                  refine g_iAst (f := m.2.1 62) (m' := (kA m 62 (up (m.2.1 62) 1 (beh (m.2.1 66) e (m.2.1 62 1))))) rfl (kl_62 _) (by decide) (by omega) (by omega) (kA_62 _ _) ?_
                  have hm27 : kI (kA m 62 (up (m.2.1 62) 1 (beh (m.2.1 66) e (m.2.1 62 1)))) := kI_U hm 62 rfl (show ((-2147483648) : Int) ≤ (beh (m.2.1 66) e (m.2.1 62 1)) by omega) (show (beh (m.2.1 66) e (m.2.1 62 1)) ≤ (2147483647 : Int) by omega)
                  have hf28 : fr [] [62] m (kA m 62 (up (m.2.1 62) 1 (beh (m.2.1 66) e (m.2.1 62 1)))) := fr_A hf0 62 _ rfl
                  refine g_aload_n (n := 0) rfl rfl ?_
                  refine g_getf (v := vR 62) rfl (kl_61 _) rfl ?_
                  refine g_iload_n (n := 1) rfl rfl ?_
                  refine g_iconst rfl ?_
                  refine g_iaddE (z := 0) (by decide) rfl ?_
                  refine g_iload (n := 7) rfl rfl ?_
                  refine g_iaddE (z := 0) (by decide) rfl ?_
                  refine g_iload (n := 8) rfl rfl ?_
                  refine g_if_eq (by decide) (by decide) rfl ?_ ?_
                  · intro k29
                    refine g_aload_n (n := 0) rfl rfl ?_
                    refine g_getf (v := vR 62) rfl (kl_61 _) rfl ?_
                    refine g_iload_n (n := 1) rfl rfl ?_
                    refine g_iconst rfl ?_
                    refine g_iaddE (z := 0) (by decide) rfl ?_
                    refine g_iload (n := 7) rfl rfl ?_
                    refine g_iaddE (z := 0) (by decide) rfl ?_
                    refine g_ialE (f := up (m.2.1 62) 1 (beh (m.2.1 66) e (m.2.1 62 1))) (v := m.2.1 62 0) rfl (kl_62 _) (by decide) (by decide) (by decide) rfl ?_
                    refine g_iAst (f := up (m.2.1 62) 1 (beh (m.2.1 66) e (m.2.1 62 1))) (m' := (kA (kA m 62 (up (m.2.1 62) 1 (beh (m.2.1 66) e (m.2.1 62 1)))) 62 (up (up (m.2.1 62) 1 (beh (m.2.1 66) e (m.2.1 62 1))) 0 (m.2.1 62 0)))) rfl (kl_62 _) (by decide) (by omega) (by omega) (kA_62 _ _) ?_
                    have hm30 : kI (kA (kA m 62 (up (m.2.1 62) 1 (beh (m.2.1 66) e (m.2.1 62 1)))) 62 (up (up (m.2.1 62) 1 (beh (m.2.1 66) e (m.2.1 62 1))) 0 (m.2.1 62 0))) := kI_U hm27 62 rfl (show ((-2147483648) : Int) ≤ m.2.1 62 0 by omega) (show m.2.1 62 0 ≤ (2147483647 : Int) by omega)
                    have hf31 : fr [] [62] m (kA (kA m 62 (up (m.2.1 62) 1 (beh (m.2.1 66) e (m.2.1 62 1)))) 62 (up (up (m.2.1 62) 1 (beh (m.2.1 66) e (m.2.1 62 1))) 0 (m.2.1 62 0))) := fr_A hf28 62 _ rfl
                    refine g_aload_n (n := 0) rfl rfl ?_
                    refine g_getf (v := vR 62) rfl (kl_61 _) rfl ?_
                    refine g_iload_n (n := 1) rfl rfl ?_
                    refine g_bipush (by decide) rfl ?_
                    refine g_iaddE (z := 6) (by decide) rfl ?_
                    refine g_dup2 rfl rfl rfl ?_
                    refine g_ialE (f := up (up (m.2.1 62) 1 (beh (m.2.1 66) e (m.2.1 62 1))) 0 (m.2.1 62 0)) (v := m.2.1 62 6) rfl (kl_62 _) (by decide) (by decide) (by decide) rfl ?_
                    refine g_iload (n := 4) rfl rfl ?_
                    refine g_bipush (by decide) rfl ?_
                    refine g_icmp_ne (by decide) (by decide) (by decide) (by decide) rfl ?_ ?_
                    · intro k32
                      refine g_iconst rfl ?_
                      refine g_isubE (z := m.2.1 62 6) (by omega) rfl ?_
                      refine g_iAst (f := up (up (m.2.1 62) 1 (beh (m.2.1 66) e (m.2.1 62 1))) 0 (m.2.1 62 0)) (m' := (kA (kA (kA m 62 (up (m.2.1 62) 1 (beh (m.2.1 66) e (m.2.1 62 1)))) 62 (up (up (m.2.1 62) 1 (beh (m.2.1 66) e (m.2.1 62 1))) 0 (m.2.1 62 0))) 62 (up (up (up (m.2.1 62) 1 (beh (m.2.1 66) e (m.2.1 62 1))) 0 (m.2.1 62 0)) 6 (m.2.1 62 6)))) rfl (kl_62 _) (by decide) (by omega) (by omega) (kA_62 _ _) ?_
                      have hm33 : kI (kA (kA (kA m 62 (up (m.2.1 62) 1 (beh (m.2.1 66) e (m.2.1 62 1)))) 62 (up (up (m.2.1 62) 1 (beh (m.2.1 66) e (m.2.1 62 1))) 0 (m.2.1 62 0))) 62 (up (up (up (m.2.1 62) 1 (beh (m.2.1 66) e (m.2.1 62 1))) 0 (m.2.1 62 0)) 6 (m.2.1 62 6))) := kI_U hm30 62 rfl (show ((-2147483648) : Int) ≤ m.2.1 62 6 by omega) (show m.2.1 62 6 ≤ (2147483647 : Int) by omega)
                      have hf34 : fr [] [62] m (kA (kA (kA m 62 (up (m.2.1 62) 1 (beh (m.2.1 66) e (m.2.1 62 1)))) 62 (up (up (m.2.1 62) 1 (beh (m.2.1 66) e (m.2.1 62 1))) 0 (m.2.1 62 0))) 62 (up (up (up (m.2.1 62) 1 (beh (m.2.1 66) e (m.2.1 62 1))) 0 (m.2.1 62 0)) 6 (m.2.1 62 6))) := fr_A hf31 62 _ rfl
                      refine g_aload_n (n := 0) rfl rfl ?_
                      refine g_getf (v := vR 62) rfl (kl_61 _) rfl ?_
                      refine g_iload_n (n := 1) rfl rfl ?_
                      refine g_iconst rfl ?_
                      refine g_iaddE (z := 4) (by decide) rfl ?_
                      refine g_iload (n := 4) rfl rfl ?_
                      refine g_bipush (by decide) rfl ?_
                      refine g_icmp_ne (by decide) (by decide) (by decide) (by decide) rfl ?_ ?_
                      · intro k35
                        refine g_iload (n := 6) rfl rfl ?_
                        refine g_iAst (f := up (up (up (m.2.1 62) 1 (beh (m.2.1 66) e (m.2.1 62 1))) 0 (m.2.1 62 0)) 6 (m.2.1 62 6)) (m' := (kA (kA (kA (kA m 62 (up (m.2.1 62) 1 (beh (m.2.1 66) e (m.2.1 62 1)))) 62 (up (up (m.2.1 62) 1 (beh (m.2.1 66) e (m.2.1 62 1))) 0 (m.2.1 62 0))) 62 (up (up (up (m.2.1 62) 1 (beh (m.2.1 66) e (m.2.1 62 1))) 0 (m.2.1 62 0)) 6 (m.2.1 62 6))) 62 (up (up (up (up (m.2.1 62) 1 (beh (m.2.1 66) e (m.2.1 62 1))) 0 (m.2.1 62 0)) 6 (m.2.1 62 6)) 4 (beh (m.2.1 66) e (m.2.1 62 1))))) rfl (kl_62 _) (by decide) (by omega) (by omega) (kA_62 _ _) ?_
                        have hm36 : kI (kA (kA (kA (kA m 62 (up (m.2.1 62) 1 (beh (m.2.1 66) e (m.2.1 62 1)))) 62 (up (up (m.2.1 62) 1 (beh (m.2.1 66) e (m.2.1 62 1))) 0 (m.2.1 62 0))) 62 (up (up (up (m.2.1 62) 1 (beh (m.2.1 66) e (m.2.1 62 1))) 0 (m.2.1 62 0)) 6 (m.2.1 62 6))) 62 (up (up (up (up (m.2.1 62) 1 (beh (m.2.1 66) e (m.2.1 62 1))) 0 (m.2.1 62 0)) 6 (m.2.1 62 6)) 4 (beh (m.2.1 66) e (m.2.1 62 1)))) := kI_U hm33 62 rfl (show ((-2147483648) : Int) ≤ (beh (m.2.1 66) e (m.2.1 62 1)) by omega) (show (beh (m.2.1 66) e (m.2.1 62 1)) ≤ (2147483647 : Int) by omega)
                        have hf37 : fr [] [62] m (kA (kA (kA (kA m 62 (up (m.2.1 62) 1 (beh (m.2.1 66) e (m.2.1 62 1)))) 62 (up (up (m.2.1 62) 1 (beh (m.2.1 66) e (m.2.1 62 1))) 0 (m.2.1 62 0))) 62 (up (up (up (m.2.1 62) 1 (beh (m.2.1 66) e (m.2.1 62 1))) 0 (m.2.1 62 0)) 6 (m.2.1 62 6))) 62 (up (up (up (up (m.2.1 62) 1 (beh (m.2.1 66) e (m.2.1 62 1))) 0 (m.2.1 62 0)) 6 (m.2.1 62 6)) 4 (beh (m.2.1 66) e (m.2.1 62 1)))) := fr_A hf34 62 _ rfl
                        refine g_aload_n (n := 0) rfl rfl ?_
                        refine g_getf (v := vR 62) rfl (kl_61 _) rfl ?_
                        refine g_iload_n (n := 1) rfl rfl ?_
                        refine g_iconst rfl ?_
                        refine g_iaddE (z := 2) (by decide) rfl ?_
                        refine g_iload_n (n := 2) rfl rfl ?_
                        refine g_iaddE (z := 3) (by decide) rfl ?_
                        refine g_iconst rfl ?_
                        refine g_iAst (f := up (up (up (up (m.2.1 62) 1 (beh (m.2.1 66) e (m.2.1 62 1))) 0 (m.2.1 62 0)) 6 (m.2.1 62 6)) 4 (beh (m.2.1 66) e (m.2.1 62 1))) (m' := (kA (kA (kA (kA (kA m 62 (up (m.2.1 62) 1 (beh (m.2.1 66) e (m.2.1 62 1)))) 62 (up (up (m.2.1 62) 1 (beh (m.2.1 66) e (m.2.1 62 1))) 0 (m.2.1 62 0))) 62 (up (up (up (m.2.1 62) 1 (beh (m.2.1 66) e (m.2.1 62 1))) 0 (m.2.1 62 0)) 6 (m.2.1 62 6))) 62 (up (up (up (up (m.2.1 62) 1 (beh (m.2.1 66) e (m.2.1 62 1))) 0 (m.2.1 62 0)) 6 (m.2.1 62 6)) 4 (beh (m.2.1 66) e (m.2.1 62 1)))) 62 (up (up (up (up (up (m.2.1 62) 1 (beh (m.2.1 66) e (m.2.1 62 1))) 0 (m.2.1 62 0)) 6 (m.2.1 62 6)) 4 (beh (m.2.1 66) e (m.2.1 62 1))) 3 0))) rfl (kl_62 _) (by decide) (by omega) (by omega) (kA_62 _ _) ?_
                        have hm38 : kI (kA (kA (kA (kA (kA m 62 (up (m.2.1 62) 1 (beh (m.2.1 66) e (m.2.1 62 1)))) 62 (up (up (m.2.1 62) 1 (beh (m.2.1 66) e (m.2.1 62 1))) 0 (m.2.1 62 0))) 62 (up (up (up (m.2.1 62) 1 (beh (m.2.1 66) e (m.2.1 62 1))) 0 (m.2.1 62 0)) 6 (m.2.1 62 6))) 62 (up (up (up (up (m.2.1 62) 1 (beh (m.2.1 66) e (m.2.1 62 1))) 0 (m.2.1 62 0)) 6 (m.2.1 62 6)) 4 (beh (m.2.1 66) e (m.2.1 62 1)))) 62 (up (up (up (up (up (m.2.1 62) 1 (beh (m.2.1 66) e (m.2.1 62 1))) 0 (m.2.1 62 0)) 6 (m.2.1 62 6)) 4 (beh (m.2.1 66) e (m.2.1 62 1))) 3 0)) := kI_U hm36 62 rfl (show ((-2147483648) : Int) ≤ 0 by omega) (show 0 ≤ (2147483647 : Int) by omega)
                        have hf39 : fr [] [62] m (kA (kA (kA (kA (kA m 62 (up (m.2.1 62) 1 (beh (m.2.1 66) e (m.2.1 62 1)))) 62 (up (up (m.2.1 62) 1 (beh (m.2.1 66) e (m.2.1 62 1))) 0 (m.2.1 62 0))) 62 (up (up (up (m.2.1 62) 1 (beh (m.2.1 66) e (m.2.1 62 1))) 0 (m.2.1 62 0)) 6 (m.2.1 62 6))) 62 (up (up (up (up (m.2.1 62) 1 (beh (m.2.1 66) e (m.2.1 62 1))) 0 (m.2.1 62 0)) 6 (m.2.1 62 6)) 4 (beh (m.2.1 66) e (m.2.1 62 1)))) 62 (up (up (up (up (up (m.2.1 62) 1 (beh (m.2.1 66) e (m.2.1 62 1))) 0 (m.2.1 62 0)) 6 (m.2.1 62 6)) 4 (beh (m.2.1 66) e (m.2.1 62 1))) 3 0)) := fr_A hf37 62 _ rfl
                        refine g_iconst rfl ?_
                        refine g_zret rfl rfl (by omega) ?_
                        refine ⟨_, _, rfl, hm38, hf39, Or.inl ⟨rfl, ?_⟩, (fun j hj => by show (up (up (up (up (up (m.2.1 62) 1 (beh (m.2.1 66) e (m.2.1 62 1))) 0 (m.2.1 62 0)) 6 (m.2.1 62 6)) 4 (beh (m.2.1 66) e (m.2.1 62 1))) 3 0) j = m.2.1 62 j; rw [up_ne _ (by omega), up_ne _ (by omega), up_ne _ (by omega), up_ne _ (by omega), up_ne _ (by omega)])⟩
                        show goS_1 (m.2.1 66) (m.2.1 62 0, m.2.1 62 1, m.2.1 62 2, m.2.1 62 3, m.2.1 62 4, m.2.1 62 5, m.2.1 62 6) e = some (m.2.1 62 0, (beh (m.2.1 66) e (m.2.1 62 1)), m.2.1 62 2, 0, (beh (m.2.1 66) e (m.2.1 62 1)), m.2.1 62 5, m.2.1 62 6)
                        dsimp only [goS_1]
                        repeat (split <;> try (exfalso; omega))
                        all_goals first | rfl | omega
                      · intro k40
                        exfalso; omega
                    · intro k41
                      exfalso; omega
                  · intro k42
                    exfalso; omega
                · intro k43
                  refine g_iconst rfl ?_
                  refine g_zret rfl rfl (by omega) ?_
                  refine ⟨_, _, rfl, hm, hf0, Or.inr ⟨rfl, ?_, rfl⟩, fun j hj => rfl⟩
                  show goS_1 (m.2.1 66) (m.2.1 62 0, m.2.1 62 1, m.2.1 62 2, m.2.1 62 3, m.2.1 62 4, m.2.1 62 5, m.2.1 62 6) e = none
                  dsimp only [goS_1]
                  repeat (split <;> try (exfalso; omega))
                  all_goals first | rfl | omega
              · intro k44
                exfalso; omega
            · intro k45
              exfalso; omega
    · intro k46
      exfalso; omega
  · intro k47
    exfalso; omega
theorem d_goB_0_1 {V : cg_V} {d q : Nat} (hd : 1 ≤ d) (hq : 24 ≤ q) {m : kM} (hm : kI m) {e : Int} (h_e : 0 ≤ e ∧ e ≤ 9) (hw : kw (kr0 (m.2.1 62))) : cg_S V d q mX10_goes [vR 61, vI 0, vI 1, vI e, vI 24] (kl m) (R_I (fun z m' => (kI m') ∧ (fr [] [62] m m') ∧ ((z = 1 ∧ goB_1 (m.2.1 66) (kr0 (m.2.1 62)) e = some (kr0 (m'.2.1 62))) ∨ (z = 0 ∧ goB_1 (m.2.1 66) (kr0 (m.2.1 62)) e = none ∧ (kr0 (m'.2.1 62)) = (kr0 (m.2.1 62)))) ∧ (∀ j : Int, (j < 0 ∨ 7 ≤ j) → m'.2.1 62 j = m.2.1 62 j))) := by
  have hf0 : fr [] [62] m m := fr_rf m
  refine cg_of (List.mem_of_getElem? (show ae_MT[149]? = some mX10_goes from rfl)) (Nat.le_of_ble_eq_true rfl) ?_
  show cg_G V mX10_goes d q _ 0 [(0, vR 61), (1, vI 0), (2, vI 1), (3, vI e), (4, vI 24)] [] (kl m) 0 0
  have w0 : 0 ≤ m.2.1 62 0 ∧ m.2.1 62 0 ≤ 5 := hw.1
  have w1 : 0 ≤ m.2.1 62 1 ∧ m.2.1 62 1 ≤ 5 := hw.2.1
  have w2 : 0 ≤ m.2.1 62 2 ∧ m.2.1 62 2 ≤ 2 := hw.2.2.1
  have w3 : 0 ≤ m.2.1 62 3 ∧ m.2.1 62 3 ≤ 2 := hw.2.2.2.1
  have w4 : (-1) ≤ m.2.1 62 4 ∧ m.2.1 62 4 ≤ 5 := hw.2.2.2.2.1
  have w5 : 0 ≤ m.2.1 62 5 ∧ m.2.1 62 5 ≤ 63 := hw.2.2.2.2.2.1
  have w6 : 0 ≤ m.2.1 62 6 ∧ m.2.1 62 6 ≤ 3 := hw.2.2.2.2.2.2.1
  have w7 : 0 ≤ m.2.1 62 4 ∨ m.2.1 62 2 = 2 ∨ m.2.1 62 3 = 2 := hw.2.2.2.2.2.2.2
  refine g_aload_n (n := 0) rfl rfl ?_
  refine g_getf (v := vR 62) rfl (kl_61 _) rfl ?_
  refine g_iload_n (n := 1) rfl rfl ?_
  refine g_iconst rfl ?_
  refine g_iaddE (z := 0) (by decide) rfl ?_
  refine g_iload_n (n := 2) rfl rfl ?_
  refine g_iaddE (z := 1) (by decide) rfl ?_
  refine g_ialE (f := m.2.1 62) (v := m.2.1 62 1) rfl (kl_62 _) (by decide) (by decide) (by decide) rfl ?_
  refine g_istore (n := 5) (lo' := [(0, vR 61), (1, vI 0), (2, vI 1), (3, vI e), (4, vI 24)]) rfl rfl ?_
  refine g_aload_n (n := 0) rfl rfl ?_
  refine g_iload_n (n := 3) rfl rfl ?_
  refine g_iload (n := 5) rfl rfl ?_
  refine c_vI (i := 61) (ps := [vI (m.2.1 62 1), vI e]) (r := []) (as := [vR 61, vI e, vI (m.2.1 62 1)]) (cs' := 0) (sl' := 0) rfl rfl rfl rfl rfl rfl (kl_61 _) (d_behind (d := d - 1) (q := q - (3 + 19)) (by omega) (by omega) hm (e := e) (r := m.2.1 62 1) (show 0 ≤ e ∧ e ≤ 9 by omega) (show (-2147483648) ≤ m.2.1 62 1 ∧ m.2.1 62 1 ≤ 2147483647 by omega)) (by omega) (show 3 + 19 ≤ q by omega) (Nat.le_of_ble_eq_true rfl) (Nat.le_of_ble_eq_true rfl) rfl rfl rfl ?_
  rintro z1 m2 ⟨rfl, p4, p5, p6⟩
  subst p4
  refine g_istore (n := 6) (lo' := [(5, vI (m.2.1 62 1)), (0, vR 61), (1, vI 0), (2, vI 1), (3, vI e), (4, vI 24)]) rfl rfl ?_
  refine g_iconst rfl ?_
  refine g_iload_n (n := 2) rfl rfl ?_
  refine g_isubE (z := 0) (by decide) rfl ?_
  refine g_istore (n := 7) (lo' := [(6, vI (beh (m.2.1 66) e (m.2.1 62 1))), (5, vI (m.2.1 62 1)), (0, vR 61), (1, vI 0), (2, vI 1), (3, vI e), (4, vI 24)]) rfl rfl ?_
  refine g_iload (n := 4) rfl rfl ?_
  refine g_bipush (by decide) rfl ?_
  refine g_icmp_ne (by decide) (by decide) (by decide) (by decide) rfl ?_ ?_
  · intro k7
    exfalso; omega
  · intro k8
    refine g_iconst rfl ?_
    refine g_goto rfl ?_
    refine g_istore (n := 8) (lo' := [(7, vI 0), (6, vI (beh (m.2.1 66) e (m.2.1 62 1))), (5, vI (m.2.1 62 1)), (0, vR 61), (1, vI 0), (2, vI 1), (3, vI e), (4, vI 24)]) rfl rfl ?_
    refine g_iload (n := 4) rfl rfl ?_
    refine g_bipush (by decide) rfl ?_
    refine g_icmp_ne (by decide) (by decide) (by decide) (by decide) rfl ?_ ?_
    · intro k9
      refine g_aload_n (n := 0) rfl rfl ?_
      refine g_getf (v := vR 62) rfl (kl_61 _) rfl ?_
      refine g_iload_n (n := 1) rfl rfl ?_
      refine g_iconst rfl ?_
      refine g_iaddE (z := 2) (by decide) rfl ?_
      refine g_iload_n (n := 2) rfl rfl ?_
      refine g_iaddE (z := 3) (by decide) rfl ?_
      refine g_ialE (f := m.2.1 62) (v := m.2.1 62 3) rfl (kl_62 _) (by decide) (by decide) (by decide) rfl ?_
      refine g_iconst rfl ?_
      refine g_icmp_ne (by omega) (by omega) (by decide) (by decide) rfl ?_ ?_
      · intro k10
        refine g_iconst rfl ?_
        refine g_istore (n := 9) (lo' := [(8, vI 1), (7, vI 0), (6, vI (beh (m.2.1 66) e (m.2.1 62 1))), (5, vI (m.2.1 62 1)), (0, vR 61), (1, vI 0), (2, vI 1), (3, vI e), (4, vI 24)]) rfl rfl ?_
        refine g_iload (n := 6) rfl rfl ?_
        refine g_iconst rfl ?_
        refine g_icmp_eq (by omega) (by omega) (by decide) (by decide) rfl ?_ ?_
        · intro k11
          refine g_iconst rfl ?_
          refine g_zret rfl rfl (by omega) ?_
          refine ⟨_, _, rfl, hm, hf0, Or.inr ⟨rfl, ?_, rfl⟩, fun j hj => rfl⟩
          show goB_1 (m.2.1 66) (m.2.1 62 0, m.2.1 62 1, m.2.1 62 2, m.2.1 62 3, m.2.1 62 4, m.2.1 62 5, m.2.1 62 6) e = none
          dsimp only [goB_1]
          repeat (split <;> try (exfalso; omega))
          all_goals first | rfl | omega
        · intro k12
          refine g_iload (n := 9) rfl rfl ?_
          refine g_if_eq (by decide) (by decide) rfl ?_ ?_
          · intro k13
            refine g_iconst rfl ?_
            refine g_zret rfl rfl (by omega) ?_
            refine ⟨_, _, rfl, hm, hf0, Or.inr ⟨rfl, ?_, rfl⟩, fun j hj => rfl⟩
            show goB_1 (m.2.1 66) (m.2.1 62 0, m.2.1 62 1, m.2.1 62 2, m.2.1 62 3, m.2.1 62 4, m.2.1 62 5, m.2.1 62 6) e = none
            dsimp only [goB_1]
            repeat (split <;> try (exfalso; omega))
            all_goals first | rfl | omega
          · intro k14
            exfalso; omega
      · intro k15
        refine g_iconst rfl ?_
        refine g_goto rfl ?_
        refine g_istore (n := 9) (lo' := [(8, vI 1), (7, vI 0), (6, vI (beh (m.2.1 66) e (m.2.1 62 1))), (5, vI (m.2.1 62 1)), (0, vR 61), (1, vI 0), (2, vI 1), (3, vI e), (4, vI 24)]) rfl rfl ?_
        refine g_iload (n := 6) rfl rfl ?_
        refine g_iconst rfl ?_
        refine g_icmp_eq (by omega) (by omega) (by decide) (by decide) rfl ?_ ?_
        · intro k16
          refine g_iconst rfl ?_
          refine g_zret rfl rfl (by omega) ?_
          refine ⟨_, _, rfl, hm, hf0, Or.inr ⟨rfl, ?_, rfl⟩, fun j hj => rfl⟩
          show goB_1 (m.2.1 66) (m.2.1 62 0, m.2.1 62 1, m.2.1 62 2, m.2.1 62 3, m.2.1 62 4, m.2.1 62 5, m.2.1 62 6) e = none
          dsimp only [goB_1]
          repeat (split <;> try (exfalso; omega))
          all_goals first | rfl | omega
        · intro k17
          refine g_iload (n := 9) rfl rfl ?_
          refine g_if_eq (by decide) (by decide) rfl ?_ ?_
          · intro k18
            exfalso; omega
          · intro k19
            refine g_iload (n := 8) rfl rfl ?_
            refine g_if_eq (by decide) (by decide) rfl ?_ ?_
            · intro k20
              exfalso; omega
            · intro k21
              refine g_aload_n (n := 0) rfl rfl ?_
              refine g_getf (v := vR 62) rfl (kl_61 _) rfl ?_
              refine g_iload_n (n := 1) rfl rfl ?_
              refine g_iconst rfl ?_
              refine g_iaddE (z := 0) (by decide) rfl ?_
              refine g_iload (n := 7) rfl rfl ?_
              refine g_iaddE (z := 0) (by decide) rfl ?_
              refine g_ialE (f := m.2.1 62) (v := m.2.1 62 0) rfl (kl_62 _) (by decide) (by decide) (by decide) rfl ?_
              refine g_iload (n := 5) rfl rfl ?_
              refine g_icmp_ne (by omega) (by omega) (by omega) (by omega) rfl ?_ ?_
              · intro k22
                refine g_iconst rfl ?_
                refine g_zret rfl rfl (by omega) ?_
                refine ⟨_, _, rfl, hm, hf0, Or.inr ⟨rfl, ?_, rfl⟩, fun j hj => rfl⟩
                show goB_1 (m.2.1 66) (m.2.1 62 0, m.2.1 62 1, m.2.1 62 2, m.2.1 62 3, m.2.1 62 4, m.2.1 62 5, m.2.1 62 6) e = none
                dsimp only [goB_1]
                repeat (split <;> try (exfalso; omega))
                all_goals first | rfl | omega
              · intro k23
                refine g_aload_n (n := 0) rfl rfl ?_
                refine g_iload_n (n := 3) rfl rfl ?_
                refine g_iload (n := 5) rfl rfl ?_
                refine g_iload (n := 4) rfl rfl ?_
                refine g_iload (n := 8) rfl rfl ?_
                refine g_if_eq (by decide) (by decide) rfl ?_ ?_
                · intro k24
                  exfalso; omega
                · intro k25
                  refine g_aload_n (n := 0) rfl rfl ?_
                  refine g_getf (v := vR 62) rfl (kl_61 _) rfl ?_
                  refine g_iload_n (n := 1) rfl rfl ?_
                  refine g_iconst rfl ?_
                  refine g_iaddE (z := 2) (by decide) rfl ?_
                  refine g_iload (n := 7) rfl rfl ?_
                  refine g_iaddE (z := 2) (by decide) rfl ?_
                  refine g_ialE (f := m.2.1 62) (v := m.2.1 62 2) rfl (kl_62 _) (by decide) (by decide) (by decide) rfl ?_
                  refine g_iconst rfl ?_
                  refine g_icmp_ne (by omega) (by omega) (by decide) (by decide) rfl ?_ ?_
                  · intro k26
                    refine g_iconst rfl ?_
                    refine c_vI (i := 61) (ps := [vI 0, vI 24, vI (m.2.1 62 1), vI e]) (r := []) (as := [vR 61, vI e, vI (m.2.1 62 1), vI 24, vI 0]) (cs' := 0) (sl' := 0) rfl rfl rfl rfl rfl rfl (kl_61 _) (d_opens (d := d - 1) (q := q - (5 + 19)) (by omega) (by omega) hm (e := e) (r := m.2.1 62 1) (v := 24) (l := 0) (show 0 ≤ e ∧ e ≤ 9 by omega) (show (-2147483648) ≤ m.2.1 62 1 ∧ m.2.1 62 1 ≤ 2147483647 by omega) (show (-2147483648) ≤ 24 ∧ 24 ≤ 2147483647 by omega) (show 0 ≤ 0 ∧ 0 ≤ 1 by omega)) (by omega) (show 5 + 19 ≤ q by omega) (Nat.le_of_ble_eq_true rfl) (Nat.le_of_ble_eq_true rfl) rfl rfl rfl ?_
                    rintro z27 m28 ⟨rfl, p30, p31⟩
                    subst p30
                    refine g_if_ne (by omega) (by omega) rfl ?_ ?_
                    · intro k32
                      refine g_aload_n (n := 0) rfl rfl ?_
                      refine g_getf (v := vR 62) rfl (kl_61 _) rfl ?_
                      refine g_iload_n (n := 1) rfl rfl ?_
                      refine g_iconst rfl ?_
                      refine g_iaddE (z := 0) (by decide) rfl ?_
                      refine g_iload_n (n := 2) rfl rfl ?_
                      refine g_iaddE (z := 1) (by decide) rfl ?_
                      refine g_iload (n := 6) rfl rfl ?_
                      refine g_iAst (f := m.2.1 62) (m' := (kA m 62 (up (m.2.1 62) 1 (beh (m.2.1 66) e (m.2.1 62 1))))) rfl (kl_62 _) (by decide) (by omega) (by omega) (kA_62 _ _) ?_
                      have hm33 : kI (kA m 62 (up (m.2.1 62) 1 (beh (m.2.1 66) e (m.2.1 62 1)))) := kI_U hm 62 rfl (show ((-2147483648) : Int) ≤ (beh (m.2.1 66) e (m.2.1 62 1)) by omega) (show (beh (m.2.1 66) e (m.2.1 62 1)) ≤ (2147483647 : Int) by omega)
                      have hf34 : fr [] [62] m (kA m 62 (up (m.2.1 62) 1 (beh (m.2.1 66) e (m.2.1 62 1)))) := fr_A hf0 62 _ rfl
                      refine g_aload_n (n := 0) rfl rfl ?_
                      refine g_getf (v := vR 62) rfl (kl_61 _) rfl ?_
                      refine g_iload_n (n := 1) rfl rfl ?_
                      refine g_iconst rfl ?_
                      refine g_iaddE (z := 0) (by decide) rfl ?_
                      refine g_iload (n := 7) rfl rfl ?_
                      refine g_iaddE (z := 0) (by decide) rfl ?_
                      refine g_iload (n := 8) rfl rfl ?_
                      refine g_if_eq (by decide) (by decide) rfl ?_ ?_
                      · intro k35
                        exfalso; omega
                      · intro k36
                        refine g_iload (n := 6) rfl rfl ?_
                        refine g_goto rfl ?_
                        refine g_iAst (f := up (m.2.1 62) 1 (beh (m.2.1 66) e (m.2.1 62 1))) (m' := (kA (kA m 62 (up (m.2.1 62) 1 (beh (m.2.1 66) e (m.2.1 62 1)))) 62 (up (up (m.2.1 62) 1 (beh (m.2.1 66) e (m.2.1 62 1))) 0 (beh (m.2.1 66) e (m.2.1 62 1))))) rfl (kl_62 _) (by decide) (by omega) (by omega) (kA_62 _ _) ?_
                        have hm37 : kI (kA (kA m 62 (up (m.2.1 62) 1 (beh (m.2.1 66) e (m.2.1 62 1)))) 62 (up (up (m.2.1 62) 1 (beh (m.2.1 66) e (m.2.1 62 1))) 0 (beh (m.2.1 66) e (m.2.1 62 1)))) := kI_U hm33 62 rfl (show ((-2147483648) : Int) ≤ (beh (m.2.1 66) e (m.2.1 62 1)) by omega) (show (beh (m.2.1 66) e (m.2.1 62 1)) ≤ (2147483647 : Int) by omega)
                        have hf38 : fr [] [62] m (kA (kA m 62 (up (m.2.1 62) 1 (beh (m.2.1 66) e (m.2.1 62 1)))) 62 (up (up (m.2.1 62) 1 (beh (m.2.1 66) e (m.2.1 62 1))) 0 (beh (m.2.1 66) e (m.2.1 62 1)))) := fr_A hf34 62 _ rfl
                        refine g_aload_n (n := 0) rfl rfl ?_
                        refine g_getf (v := vR 62) rfl (kl_61 _) rfl ?_
                        refine g_iload_n (n := 1) rfl rfl ?_
                        refine g_bipush (by decide) rfl ?_
                        refine g_iaddE (z := 6) (by decide) rfl ?_
                        refine g_dup2 rfl rfl rfl ?_
                        refine g_ialE (f := up (up (m.2.1 62) 1 (beh (m.2.1 66) e (m.2.1 62 1))) 0 (beh (m.2.1 66) e (m.2.1 62 1))) (v := m.2.1 62 6) rfl (kl_62 _) (by decide) (by decide) (by decide) rfl ?_
                        refine g_iload (n := 4) rfl rfl ?_
                        refine g_bipush (by decide) rfl ?_
                        refine g_icmp_ne (by decide) (by decide) (by decide) (by decide) rfl ?_ ?_
                        · intro k39
                          refine g_iconst rfl ?_
                          refine g_isubE (z := m.2.1 62 6) (by omega) rfl ?_
                          refine g_iAst (f := up (up (m.2.1 62) 1 (beh (m.2.1 66) e (m.2.1 62 1))) 0 (beh (m.2.1 66) e (m.2.1 62 1))) (m' := (kA (kA (kA m 62 (up (m.2.1 62) 1 (beh (m.2.1 66) e (m.2.1 62 1)))) 62 (up (up (m.2.1 62) 1 (beh (m.2.1 66) e (m.2.1 62 1))) 0 (beh (m.2.1 66) e (m.2.1 62 1)))) 62 (up (up (up (m.2.1 62) 1 (beh (m.2.1 66) e (m.2.1 62 1))) 0 (beh (m.2.1 66) e (m.2.1 62 1))) 6 (m.2.1 62 6)))) rfl (kl_62 _) (by decide) (by omega) (by omega) (kA_62 _ _) ?_
                          have hm40 : kI (kA (kA (kA m 62 (up (m.2.1 62) 1 (beh (m.2.1 66) e (m.2.1 62 1)))) 62 (up (up (m.2.1 62) 1 (beh (m.2.1 66) e (m.2.1 62 1))) 0 (beh (m.2.1 66) e (m.2.1 62 1)))) 62 (up (up (up (m.2.1 62) 1 (beh (m.2.1 66) e (m.2.1 62 1))) 0 (beh (m.2.1 66) e (m.2.1 62 1))) 6 (m.2.1 62 6))) := kI_U hm37 62 rfl (show ((-2147483648) : Int) ≤ m.2.1 62 6 by omega) (show m.2.1 62 6 ≤ (2147483647 : Int) by omega)
                          have hf41 : fr [] [62] m (kA (kA (kA m 62 (up (m.2.1 62) 1 (beh (m.2.1 66) e (m.2.1 62 1)))) 62 (up (up (m.2.1 62) 1 (beh (m.2.1 66) e (m.2.1 62 1))) 0 (beh (m.2.1 66) e (m.2.1 62 1)))) 62 (up (up (up (m.2.1 62) 1 (beh (m.2.1 66) e (m.2.1 62 1))) 0 (beh (m.2.1 66) e (m.2.1 62 1))) 6 (m.2.1 62 6))) := fr_A hf38 62 _ rfl
                          refine g_aload_n (n := 0) rfl rfl ?_
                          refine g_getf (v := vR 62) rfl (kl_61 _) rfl ?_
                          refine g_iload_n (n := 1) rfl rfl ?_
                          refine g_iconst rfl ?_
                          refine g_iaddE (z := 4) (by decide) rfl ?_
                          refine g_iload (n := 4) rfl rfl ?_
                          refine g_bipush (by decide) rfl ?_
                          refine g_icmp_ne (by decide) (by decide) (by decide) (by decide) rfl ?_ ?_
                          · intro k42
                            refine g_iload (n := 6) rfl rfl ?_
                            refine g_iAst (f := up (up (up (m.2.1 62) 1 (beh (m.2.1 66) e (m.2.1 62 1))) 0 (beh (m.2.1 66) e (m.2.1 62 1))) 6 (m.2.1 62 6)) (m' := (kA (kA (kA (kA m 62 (up (m.2.1 62) 1 (beh (m.2.1 66) e (m.2.1 62 1)))) 62 (up (up (m.2.1 62) 1 (beh (m.2.1 66) e (m.2.1 62 1))) 0 (beh (m.2.1 66) e (m.2.1 62 1)))) 62 (up (up (up (m.2.1 62) 1 (beh (m.2.1 66) e (m.2.1 62 1))) 0 (beh (m.2.1 66) e (m.2.1 62 1))) 6 (m.2.1 62 6))) 62 (up (up (up (up (m.2.1 62) 1 (beh (m.2.1 66) e (m.2.1 62 1))) 0 (beh (m.2.1 66) e (m.2.1 62 1))) 6 (m.2.1 62 6)) 4 (beh (m.2.1 66) e (m.2.1 62 1))))) rfl (kl_62 _) (by decide) (by omega) (by omega) (kA_62 _ _) ?_
                            have hm43 : kI (kA (kA (kA (kA m 62 (up (m.2.1 62) 1 (beh (m.2.1 66) e (m.2.1 62 1)))) 62 (up (up (m.2.1 62) 1 (beh (m.2.1 66) e (m.2.1 62 1))) 0 (beh (m.2.1 66) e (m.2.1 62 1)))) 62 (up (up (up (m.2.1 62) 1 (beh (m.2.1 66) e (m.2.1 62 1))) 0 (beh (m.2.1 66) e (m.2.1 62 1))) 6 (m.2.1 62 6))) 62 (up (up (up (up (m.2.1 62) 1 (beh (m.2.1 66) e (m.2.1 62 1))) 0 (beh (m.2.1 66) e (m.2.1 62 1))) 6 (m.2.1 62 6)) 4 (beh (m.2.1 66) e (m.2.1 62 1)))) := kI_U hm40 62 rfl (show ((-2147483648) : Int) ≤ (beh (m.2.1 66) e (m.2.1 62 1)) by omega) (show (beh (m.2.1 66) e (m.2.1 62 1)) ≤ (2147483647 : Int) by omega)
                            have hf44 : fr [] [62] m (kA (kA (kA (kA m 62 (up (m.2.1 62) 1 (beh (m.2.1 66) e (m.2.1 62 1)))) 62 (up (up (m.2.1 62) 1 (beh (m.2.1 66) e (m.2.1 62 1))) 0 (beh (m.2.1 66) e (m.2.1 62 1)))) 62 (up (up (up (m.2.1 62) 1 (beh (m.2.1 66) e (m.2.1 62 1))) 0 (beh (m.2.1 66) e (m.2.1 62 1))) 6 (m.2.1 62 6))) 62 (up (up (up (up (m.2.1 62) 1 (beh (m.2.1 66) e (m.2.1 62 1))) 0 (beh (m.2.1 66) e (m.2.1 62 1))) 6 (m.2.1 62 6)) 4 (beh (m.2.1 66) e (m.2.1 62 1)))) := fr_A hf41 62 _ rfl
                            refine g_aload_n (n := 0) rfl rfl ?_
                            refine g_getf (v := vR 62) rfl (kl_61 _) rfl ?_
                            refine g_iload_n (n := 1) rfl rfl ?_
                            refine g_iconst rfl ?_
                            refine g_iaddE (z := 2) (by decide) rfl ?_
                            refine g_iload_n (n := 2) rfl rfl ?_
                            refine g_iaddE (z := 3) (by decide) rfl ?_
                            refine g_iconst rfl ?_
                            refine g_iAst (f := up (up (up (up (m.2.1 62) 1 (beh (m.2.1 66) e (m.2.1 62 1))) 0 (beh (m.2.1 66) e (m.2.1 62 1))) 6 (m.2.1 62 6)) 4 (beh (m.2.1 66) e (m.2.1 62 1))) (m' := (kA (kA (kA (kA (kA m 62 (up (m.2.1 62) 1 (beh (m.2.1 66) e (m.2.1 62 1)))) 62 (up (up (m.2.1 62) 1 (beh (m.2.1 66) e (m.2.1 62 1))) 0 (beh (m.2.1 66) e (m.2.1 62 1)))) 62 (up (up (up (m.2.1 62) 1 (beh (m.2.1 66) e (m.2.1 62 1))) 0 (beh (m.2.1 66) e (m.2.1 62 1))) 6 (m.2.1 62 6))) 62 (up (up (up (up (m.2.1 62) 1 (beh (m.2.1 66) e (m.2.1 62 1))) 0 (beh (m.2.1 66) e (m.2.1 62 1))) 6 (m.2.1 62 6)) 4 (beh (m.2.1 66) e (m.2.1 62 1)))) 62 (up (up (up (up (up (m.2.1 62) 1 (beh (m.2.1 66) e (m.2.1 62 1))) 0 (beh (m.2.1 66) e (m.2.1 62 1))) 6 (m.2.1 62 6)) 4 (beh (m.2.1 66) e (m.2.1 62 1))) 3 0))) rfl (kl_62 _) (by decide) (by omega) (by omega) (kA_62 _ _) ?_
                            have hm45 : kI (kA (kA (kA (kA (kA m 62 (up (m.2.1 62) 1 (beh (m.2.1 66) e (m.2.1 62 1)))) 62 (up (up (m.2.1 62) 1 (beh (m.2.1 66) e (m.2.1 62 1))) 0 (beh (m.2.1 66) e (m.2.1 62 1)))) 62 (up (up (up (m.2.1 62) 1 (beh (m.2.1 66) e (m.2.1 62 1))) 0 (beh (m.2.1 66) e (m.2.1 62 1))) 6 (m.2.1 62 6))) 62 (up (up (up (up (m.2.1 62) 1 (beh (m.2.1 66) e (m.2.1 62 1))) 0 (beh (m.2.1 66) e (m.2.1 62 1))) 6 (m.2.1 62 6)) 4 (beh (m.2.1 66) e (m.2.1 62 1)))) 62 (up (up (up (up (up (m.2.1 62) 1 (beh (m.2.1 66) e (m.2.1 62 1))) 0 (beh (m.2.1 66) e (m.2.1 62 1))) 6 (m.2.1 62 6)) 4 (beh (m.2.1 66) e (m.2.1 62 1))) 3 0)) := kI_U hm43 62 rfl (show ((-2147483648) : Int) ≤ 0 by omega) (show 0 ≤ (2147483647 : Int) by omega)
                            have hf46 : fr [] [62] m (kA (kA (kA (kA (kA m 62 (up (m.2.1 62) 1 (beh (m.2.1 66) e (m.2.1 62 1)))) 62 (up (up (m.2.1 62) 1 (beh (m.2.1 66) e (m.2.1 62 1))) 0 (beh (m.2.1 66) e (m.2.1 62 1)))) 62 (up (up (up (m.2.1 62) 1 (beh (m.2.1 66) e (m.2.1 62 1))) 0 (beh (m.2.1 66) e (m.2.1 62 1))) 6 (m.2.1 62 6))) 62 (up (up (up (up (m.2.1 62) 1 (beh (m.2.1 66) e (m.2.1 62 1))) 0 (beh (m.2.1 66) e (m.2.1 62 1))) 6 (m.2.1 62 6)) 4 (beh (m.2.1 66) e (m.2.1 62 1)))) 62 (up (up (up (up (up (m.2.1 62) 1 (beh (m.2.1 66) e (m.2.1 62 1))) 0 (beh (m.2.1 66) e (m.2.1 62 1))) 6 (m.2.1 62 6)) 4 (beh (m.2.1 66) e (m.2.1 62 1))) 3 0)) := fr_A hf44 62 _ rfl
                            refine g_iconst rfl ?_
                            refine g_zret rfl rfl (by omega) ?_
                            refine ⟨_, _, rfl, hm45, hf46, Or.inl ⟨rfl, ?_⟩, (fun j hj => by show (up (up (up (up (up (m.2.1 62) 1 (beh (m.2.1 66) e (m.2.1 62 1))) 0 (beh (m.2.1 66) e (m.2.1 62 1))) 6 (m.2.1 62 6)) 4 (beh (m.2.1 66) e (m.2.1 62 1))) 3 0) j = m.2.1 62 j; rw [up_ne _ (by omega), up_ne _ (by omega), up_ne _ (by omega), up_ne _ (by omega), up_ne _ (by omega)])⟩
                            show goB_1 (m.2.1 66) (m.2.1 62 0, m.2.1 62 1, m.2.1 62 2, m.2.1 62 3, m.2.1 62 4, m.2.1 62 5, m.2.1 62 6) e = some ((beh (m.2.1 66) e (m.2.1 62 1)), (beh (m.2.1 66) e (m.2.1 62 1)), m.2.1 62 2, 0, (beh (m.2.1 66) e (m.2.1 62 1)), m.2.1 62 5, m.2.1 62 6)
                            dsimp only [goB_1]
                            repeat (split <;> try (exfalso; omega))
                            all_goals first | rfl | omega
                          · intro k47
                            exfalso; omega
                        · intro k48
                          exfalso; omega
                    · intro k49
                      refine g_iconst rfl ?_
                      refine g_zret rfl rfl (by omega) ?_
                      refine ⟨_, _, rfl, hm, hf0, Or.inr ⟨rfl, ?_, rfl⟩, fun j hj => rfl⟩
                      show goB_1 (m.2.1 66) (m.2.1 62 0, m.2.1 62 1, m.2.1 62 2, m.2.1 62 3, m.2.1 62 4, m.2.1 62 5, m.2.1 62 6) e = none
                      dsimp only [goB_1]
                      repeat (split <;> try (exfalso; omega))
                      all_goals first | rfl | omega
                  · intro k50
                    refine g_iconst rfl ?_
                    refine g_goto rfl ?_
                    refine c_vI (i := 61) (ps := [vI 1, vI 24, vI (m.2.1 62 1), vI e]) (r := []) (as := [vR 61, vI e, vI (m.2.1 62 1), vI 24, vI 1]) (cs' := 0) (sl' := 0) rfl rfl rfl rfl rfl rfl (kl_61 _) (d_opens (d := d - 1) (q := q - (5 + 19)) (by omega) (by omega) hm (e := e) (r := m.2.1 62 1) (v := 24) (l := 1) (show 0 ≤ e ∧ e ≤ 9 by omega) (show (-2147483648) ≤ m.2.1 62 1 ∧ m.2.1 62 1 ≤ 2147483647 by omega) (show (-2147483648) ≤ 24 ∧ 24 ≤ 2147483647 by omega) (show 0 ≤ 1 ∧ 1 ≤ 1 by omega)) (by omega) (show 5 + 19 ≤ q by omega) (Nat.le_of_ble_eq_true rfl) (Nat.le_of_ble_eq_true rfl) rfl rfl rfl ?_
                    rintro z51 m52 ⟨rfl, p54, p55⟩
                    subst p54
                    refine g_if_ne (by omega) (by omega) rfl ?_ ?_
                    · intro k56
                      refine g_aload_n (n := 0) rfl rfl ?_
                      refine g_getf (v := vR 62) rfl (kl_61 _) rfl ?_
                      refine g_iload_n (n := 1) rfl rfl ?_
                      refine g_iconst rfl ?_
                      refine g_iaddE (z := 0) (by decide) rfl ?_
                      refine g_iload_n (n := 2) rfl rfl ?_
                      refine g_iaddE (z := 1) (by decide) rfl ?_
                      refine g_iload (n := 6) rfl rfl ?_
                      refine g_iAst (f := m.2.1 62) (m' := (kA m 62 (up (m.2.1 62) 1 (beh (m.2.1 66) e (m.2.1 62 1))))) rfl (kl_62 _) (by decide) (by omega) (by omega) (kA_62 _ _) ?_
                      have hm57 : kI (kA m 62 (up (m.2.1 62) 1 (beh (m.2.1 66) e (m.2.1 62 1)))) := kI_U hm 62 rfl (show ((-2147483648) : Int) ≤ (beh (m.2.1 66) e (m.2.1 62 1)) by omega) (show (beh (m.2.1 66) e (m.2.1 62 1)) ≤ (2147483647 : Int) by omega)
                      have hf58 : fr [] [62] m (kA m 62 (up (m.2.1 62) 1 (beh (m.2.1 66) e (m.2.1 62 1)))) := fr_A hf0 62 _ rfl
                      refine g_aload_n (n := 0) rfl rfl ?_
                      refine g_getf (v := vR 62) rfl (kl_61 _) rfl ?_
                      refine g_iload_n (n := 1) rfl rfl ?_
                      refine g_iconst rfl ?_
                      refine g_iaddE (z := 0) (by decide) rfl ?_
                      refine g_iload (n := 7) rfl rfl ?_
                      refine g_iaddE (z := 0) (by decide) rfl ?_
                      refine g_iload (n := 8) rfl rfl ?_
                      refine g_if_eq (by decide) (by decide) rfl ?_ ?_
                      · intro k59
                        exfalso; omega
                      · intro k60
                        refine g_iload (n := 6) rfl rfl ?_
                        refine g_goto rfl ?_
                        refine g_iAst (f := up (m.2.1 62) 1 (beh (m.2.1 66) e (m.2.1 62 1))) (m' := (kA (kA m 62 (up (m.2.1 62) 1 (beh (m.2.1 66) e (m.2.1 62 1)))) 62 (up (up (m.2.1 62) 1 (beh (m.2.1 66) e (m.2.1 62 1))) 0 (beh (m.2.1 66) e (m.2.1 62 1))))) rfl (kl_62 _) (by decide) (by omega) (by omega) (kA_62 _ _) ?_
                        have hm61 : kI (kA (kA m 62 (up (m.2.1 62) 1 (beh (m.2.1 66) e (m.2.1 62 1)))) 62 (up (up (m.2.1 62) 1 (beh (m.2.1 66) e (m.2.1 62 1))) 0 (beh (m.2.1 66) e (m.2.1 62 1)))) := kI_U hm57 62 rfl (show ((-2147483648) : Int) ≤ (beh (m.2.1 66) e (m.2.1 62 1)) by omega) (show (beh (m.2.1 66) e (m.2.1 62 1)) ≤ (2147483647 : Int) by omega)
                        have hf62 : fr [] [62] m (kA (kA m 62 (up (m.2.1 62) 1 (beh (m.2.1 66) e (m.2.1 62 1)))) 62 (up (up (m.2.1 62) 1 (beh (m.2.1 66) e (m.2.1 62 1))) 0 (beh (m.2.1 66) e (m.2.1 62 1)))) := fr_A hf58 62 _ rfl
                        refine g_aload_n (n := 0) rfl rfl ?_
                        refine g_getf (v := vR 62) rfl (kl_61 _) rfl ?_
                        refine g_iload_n (n := 1) rfl rfl ?_
                        refine g_bipush (by decide) rfl ?_
                        refine g_iaddE (z := 6) (by decide) rfl ?_
                        refine g_dup2 rfl rfl rfl ?_
                        refine g_ialE (f := up (up (m.2.1 62) 1 (beh (m.2.1 66) e (m.2.1 62 1))) 0 (beh (m.2.1 66) e (m.2.1 62 1))) (v := m.2.1 62 6) rfl (kl_62 _) (by decide) (by decide) (by decide) rfl ?_
                        refine g_iload (n := 4) rfl rfl ?_
                        refine g_bipush (by decide) rfl ?_
                        refine g_icmp_ne (by decide) (by decide) (by decide) (by decide) rfl ?_ ?_
                        · intro k63
                          refine g_iconst rfl ?_
                          refine g_isubE (z := m.2.1 62 6) (by omega) rfl ?_
                          refine g_iAst (f := up (up (m.2.1 62) 1 (beh (m.2.1 66) e (m.2.1 62 1))) 0 (beh (m.2.1 66) e (m.2.1 62 1))) (m' := (kA (kA (kA m 62 (up (m.2.1 62) 1 (beh (m.2.1 66) e (m.2.1 62 1)))) 62 (up (up (m.2.1 62) 1 (beh (m.2.1 66) e (m.2.1 62 1))) 0 (beh (m.2.1 66) e (m.2.1 62 1)))) 62 (up (up (up (m.2.1 62) 1 (beh (m.2.1 66) e (m.2.1 62 1))) 0 (beh (m.2.1 66) e (m.2.1 62 1))) 6 (m.2.1 62 6)))) rfl (kl_62 _) (by decide) (by omega) (by omega) (kA_62 _ _) ?_
                          have hm64 : kI (kA (kA (kA m 62 (up (m.2.1 62) 1 (beh (m.2.1 66) e (m.2.1 62 1)))) 62 (up (up (m.2.1 62) 1 (beh (m.2.1 66) e (m.2.1 62 1))) 0 (beh (m.2.1 66) e (m.2.1 62 1)))) 62 (up (up (up (m.2.1 62) 1 (beh (m.2.1 66) e (m.2.1 62 1))) 0 (beh (m.2.1 66) e (m.2.1 62 1))) 6 (m.2.1 62 6))) := kI_U hm61 62 rfl (show ((-2147483648) : Int) ≤ m.2.1 62 6 by omega) (show m.2.1 62 6 ≤ (2147483647 : Int) by omega)
                          have hf65 : fr [] [62] m (kA (kA (kA m 62 (up (m.2.1 62) 1 (beh (m.2.1 66) e (m.2.1 62 1)))) 62 (up (up (m.2.1 62) 1 (beh (m.2.1 66) e (m.2.1 62 1))) 0 (beh (m.2.1 66) e (m.2.1 62 1)))) 62 (up (up (up (m.2.1 62) 1 (beh (m.2.1 66) e (m.2.1 62 1))) 0 (beh (m.2.1 66) e (m.2.1 62 1))) 6 (m.2.1 62 6))) := fr_A hf62 62 _ rfl
                          refine g_aload_n (n := 0) rfl rfl ?_
                          refine g_getf (v := vR 62) rfl (kl_61 _) rfl ?_
                          refine g_iload_n (n := 1) rfl rfl ?_
                          refine g_iconst rfl ?_
                          refine g_iaddE (z := 4) (by decide) rfl ?_
                          refine g_iload (n := 4) rfl rfl ?_
                          refine g_bipush (by decide) rfl ?_
                          refine g_icmp_ne (by decide) (by decide) (by decide) (by decide) rfl ?_ ?_
                          · intro k66
                            refine g_iload (n := 6) rfl rfl ?_
                            refine g_iAst (f := up (up (up (m.2.1 62) 1 (beh (m.2.1 66) e (m.2.1 62 1))) 0 (beh (m.2.1 66) e (m.2.1 62 1))) 6 (m.2.1 62 6)) (m' := (kA (kA (kA (kA m 62 (up (m.2.1 62) 1 (beh (m.2.1 66) e (m.2.1 62 1)))) 62 (up (up (m.2.1 62) 1 (beh (m.2.1 66) e (m.2.1 62 1))) 0 (beh (m.2.1 66) e (m.2.1 62 1)))) 62 (up (up (up (m.2.1 62) 1 (beh (m.2.1 66) e (m.2.1 62 1))) 0 (beh (m.2.1 66) e (m.2.1 62 1))) 6 (m.2.1 62 6))) 62 (up (up (up (up (m.2.1 62) 1 (beh (m.2.1 66) e (m.2.1 62 1))) 0 (beh (m.2.1 66) e (m.2.1 62 1))) 6 (m.2.1 62 6)) 4 (beh (m.2.1 66) e (m.2.1 62 1))))) rfl (kl_62 _) (by decide) (by omega) (by omega) (kA_62 _ _) ?_
                            have hm67 : kI (kA (kA (kA (kA m 62 (up (m.2.1 62) 1 (beh (m.2.1 66) e (m.2.1 62 1)))) 62 (up (up (m.2.1 62) 1 (beh (m.2.1 66) e (m.2.1 62 1))) 0 (beh (m.2.1 66) e (m.2.1 62 1)))) 62 (up (up (up (m.2.1 62) 1 (beh (m.2.1 66) e (m.2.1 62 1))) 0 (beh (m.2.1 66) e (m.2.1 62 1))) 6 (m.2.1 62 6))) 62 (up (up (up (up (m.2.1 62) 1 (beh (m.2.1 66) e (m.2.1 62 1))) 0 (beh (m.2.1 66) e (m.2.1 62 1))) 6 (m.2.1 62 6)) 4 (beh (m.2.1 66) e (m.2.1 62 1)))) := kI_U hm64 62 rfl (show ((-2147483648) : Int) ≤ (beh (m.2.1 66) e (m.2.1 62 1)) by omega) (show (beh (m.2.1 66) e (m.2.1 62 1)) ≤ (2147483647 : Int) by omega)
                            have hf68 : fr [] [62] m (kA (kA (kA (kA m 62 (up (m.2.1 62) 1 (beh (m.2.1 66) e (m.2.1 62 1)))) 62 (up (up (m.2.1 62) 1 (beh (m.2.1 66) e (m.2.1 62 1))) 0 (beh (m.2.1 66) e (m.2.1 62 1)))) 62 (up (up (up (m.2.1 62) 1 (beh (m.2.1 66) e (m.2.1 62 1))) 0 (beh (m.2.1 66) e (m.2.1 62 1))) 6 (m.2.1 62 6))) 62 (up (up (up (up (m.2.1 62) 1 (beh (m.2.1 66) e (m.2.1 62 1))) 0 (beh (m.2.1 66) e (m.2.1 62 1))) 6 (m.2.1 62 6)) 4 (beh (m.2.1 66) e (m.2.1 62 1)))) := fr_A hf65 62 _ rfl
                            refine g_aload_n (n := 0) rfl rfl ?_
                            refine g_getf (v := vR 62) rfl (kl_61 _) rfl ?_
                            refine g_iload_n (n := 1) rfl rfl ?_
                            refine g_iconst rfl ?_
                            refine g_iaddE (z := 2) (by decide) rfl ?_
                            refine g_iload_n (n := 2) rfl rfl ?_
                            refine g_iaddE (z := 3) (by decide) rfl ?_
                            refine g_iconst rfl ?_
                            refine g_iAst (f := up (up (up (up (m.2.1 62) 1 (beh (m.2.1 66) e (m.2.1 62 1))) 0 (beh (m.2.1 66) e (m.2.1 62 1))) 6 (m.2.1 62 6)) 4 (beh (m.2.1 66) e (m.2.1 62 1))) (m' := (kA (kA (kA (kA (kA m 62 (up (m.2.1 62) 1 (beh (m.2.1 66) e (m.2.1 62 1)))) 62 (up (up (m.2.1 62) 1 (beh (m.2.1 66) e (m.2.1 62 1))) 0 (beh (m.2.1 66) e (m.2.1 62 1)))) 62 (up (up (up (m.2.1 62) 1 (beh (m.2.1 66) e (m.2.1 62 1))) 0 (beh (m.2.1 66) e (m.2.1 62 1))) 6 (m.2.1 62 6))) 62 (up (up (up (up (m.2.1 62) 1 (beh (m.2.1 66) e (m.2.1 62 1))) 0 (beh (m.2.1 66) e (m.2.1 62 1))) 6 (m.2.1 62 6)) 4 (beh (m.2.1 66) e (m.2.1 62 1)))) 62 (up (up (up (up (up (m.2.1 62) 1 (beh (m.2.1 66) e (m.2.1 62 1))) 0 (beh (m.2.1 66) e (m.2.1 62 1))) 6 (m.2.1 62 6)) 4 (beh (m.2.1 66) e (m.2.1 62 1))) 3 0))) rfl (kl_62 _) (by decide) (by omega) (by omega) (kA_62 _ _) ?_
                            have hm69 : kI (kA (kA (kA (kA (kA m 62 (up (m.2.1 62) 1 (beh (m.2.1 66) e (m.2.1 62 1)))) 62 (up (up (m.2.1 62) 1 (beh (m.2.1 66) e (m.2.1 62 1))) 0 (beh (m.2.1 66) e (m.2.1 62 1)))) 62 (up (up (up (m.2.1 62) 1 (beh (m.2.1 66) e (m.2.1 62 1))) 0 (beh (m.2.1 66) e (m.2.1 62 1))) 6 (m.2.1 62 6))) 62 (up (up (up (up (m.2.1 62) 1 (beh (m.2.1 66) e (m.2.1 62 1))) 0 (beh (m.2.1 66) e (m.2.1 62 1))) 6 (m.2.1 62 6)) 4 (beh (m.2.1 66) e (m.2.1 62 1)))) 62 (up (up (up (up (up (m.2.1 62) 1 (beh (m.2.1 66) e (m.2.1 62 1))) 0 (beh (m.2.1 66) e (m.2.1 62 1))) 6 (m.2.1 62 6)) 4 (beh (m.2.1 66) e (m.2.1 62 1))) 3 0)) := kI_U hm67 62 rfl (show ((-2147483648) : Int) ≤ 0 by omega) (show 0 ≤ (2147483647 : Int) by omega)
                            have hf70 : fr [] [62] m (kA (kA (kA (kA (kA m 62 (up (m.2.1 62) 1 (beh (m.2.1 66) e (m.2.1 62 1)))) 62 (up (up (m.2.1 62) 1 (beh (m.2.1 66) e (m.2.1 62 1))) 0 (beh (m.2.1 66) e (m.2.1 62 1)))) 62 (up (up (up (m.2.1 62) 1 (beh (m.2.1 66) e (m.2.1 62 1))) 0 (beh (m.2.1 66) e (m.2.1 62 1))) 6 (m.2.1 62 6))) 62 (up (up (up (up (m.2.1 62) 1 (beh (m.2.1 66) e (m.2.1 62 1))) 0 (beh (m.2.1 66) e (m.2.1 62 1))) 6 (m.2.1 62 6)) 4 (beh (m.2.1 66) e (m.2.1 62 1)))) 62 (up (up (up (up (up (m.2.1 62) 1 (beh (m.2.1 66) e (m.2.1 62 1))) 0 (beh (m.2.1 66) e (m.2.1 62 1))) 6 (m.2.1 62 6)) 4 (beh (m.2.1 66) e (m.2.1 62 1))) 3 0)) := fr_A hf68 62 _ rfl
                            refine g_iconst rfl ?_
                            refine g_zret rfl rfl (by omega) ?_
                            refine ⟨_, _, rfl, hm69, hf70, Or.inl ⟨rfl, ?_⟩, (fun j hj => by show (up (up (up (up (up (m.2.1 62) 1 (beh (m.2.1 66) e (m.2.1 62 1))) 0 (beh (m.2.1 66) e (m.2.1 62 1))) 6 (m.2.1 62 6)) 4 (beh (m.2.1 66) e (m.2.1 62 1))) 3 0) j = m.2.1 62 j; rw [up_ne _ (by omega), up_ne _ (by omega), up_ne _ (by omega), up_ne _ (by omega), up_ne _ (by omega)])⟩
                            show goB_1 (m.2.1 66) (m.2.1 62 0, m.2.1 62 1, m.2.1 62 2, m.2.1 62 3, m.2.1 62 4, m.2.1 62 5, m.2.1 62 6) e = some ((beh (m.2.1 66) e (m.2.1 62 1)), (beh (m.2.1 66) e (m.2.1 62 1)), m.2.1 62 2, 0, (beh (m.2.1 66) e (m.2.1 62 1)), m.2.1 62 5, m.2.1 62 6)
                            dsimp only [goB_1]
                            repeat (split <;> try (exfalso; omega))
                            all_goals first | rfl | omega
                          · intro k71
                            exfalso; omega
                        · intro k72
                          exfalso; omega
                    · intro k73
                      refine g_iconst rfl ?_
                      refine g_zret rfl rfl (by omega) ?_
                      refine ⟨_, _, rfl, hm, hf0, Or.inr ⟨rfl, ?_, rfl⟩, fun j hj => rfl⟩
                      show goB_1 (m.2.1 66) (m.2.1 62 0, m.2.1 62 1, m.2.1 62 2, m.2.1 62 3, m.2.1 62 4, m.2.1 62 5, m.2.1 62 6) e = none
                      dsimp only [goB_1]
                      repeat (split <;> try (exfalso; omega))
                      all_goals first | rfl | omega
    · intro k74
      exfalso; omega
theorem d_goX_0_1 {V : cg_V} {d q : Nat} (hd : 1 ≤ d) (hq : 24 ≤ q) {m : kM} (hm : kI m) {e : Int} (h_e : 0 ≤ e ∧ e ≤ 9) (hw : kw (kr0 (m.2.1 62))) : cg_S V d q mX10_goes [vR 61, vI 0, vI 1, vI e, vI 34] (kl m) (R_I (fun z m' => (kI m') ∧ (fr [] [62] m m') ∧ ((z = 1 ∧ goX_1 (m.2.1 66) (kr0 (m.2.1 62)) e = some (kr0 (m'.2.1 62))) ∨ (z = 0 ∧ goX_1 (m.2.1 66) (kr0 (m.2.1 62)) e = none ∧ (kr0 (m'.2.1 62)) = (kr0 (m.2.1 62)))) ∧ (∀ j : Int, (j < 0 ∨ 7 ≤ j) → m'.2.1 62 j = m.2.1 62 j))) := by
  have hf0 : fr [] [62] m m := fr_rf m
  refine cg_of (List.mem_of_getElem? (show ae_MT[149]? = some mX10_goes from rfl)) (Nat.le_of_ble_eq_true rfl) ?_
  show cg_G V mX10_goes d q _ 0 [(0, vR 61), (1, vI 0), (2, vI 1), (3, vI e), (4, vI 34)] [] (kl m) 0 0
  have w0 : 0 ≤ m.2.1 62 0 ∧ m.2.1 62 0 ≤ 5 := hw.1
  have w1 : 0 ≤ m.2.1 62 1 ∧ m.2.1 62 1 ≤ 5 := hw.2.1
  have w2 : 0 ≤ m.2.1 62 2 ∧ m.2.1 62 2 ≤ 2 := hw.2.2.1
  have w3 : 0 ≤ m.2.1 62 3 ∧ m.2.1 62 3 ≤ 2 := hw.2.2.2.1
  have w4 : (-1) ≤ m.2.1 62 4 ∧ m.2.1 62 4 ≤ 5 := hw.2.2.2.2.1
  have w5 : 0 ≤ m.2.1 62 5 ∧ m.2.1 62 5 ≤ 63 := hw.2.2.2.2.2.1
  have w6 : 0 ≤ m.2.1 62 6 ∧ m.2.1 62 6 ≤ 3 := hw.2.2.2.2.2.2.1
  have w7 : 0 ≤ m.2.1 62 4 ∨ m.2.1 62 2 = 2 ∨ m.2.1 62 3 = 2 := hw.2.2.2.2.2.2.2
  refine g_aload_n (n := 0) rfl rfl ?_
  refine g_getf (v := vR 62) rfl (kl_61 _) rfl ?_
  refine g_iload_n (n := 1) rfl rfl ?_
  refine g_iconst rfl ?_
  refine g_iaddE (z := 0) (by decide) rfl ?_
  refine g_iload_n (n := 2) rfl rfl ?_
  refine g_iaddE (z := 1) (by decide) rfl ?_
  refine g_ialE (f := m.2.1 62) (v := m.2.1 62 1) rfl (kl_62 _) (by decide) (by decide) (by decide) rfl ?_
  refine g_istore (n := 5) (lo' := [(0, vR 61), (1, vI 0), (2, vI 1), (3, vI e), (4, vI 34)]) rfl rfl ?_
  refine g_aload_n (n := 0) rfl rfl ?_
  refine g_iload_n (n := 3) rfl rfl ?_
  refine g_iload (n := 5) rfl rfl ?_
  refine c_vI (i := 61) (ps := [vI (m.2.1 62 1), vI e]) (r := []) (as := [vR 61, vI e, vI (m.2.1 62 1)]) (cs' := 0) (sl' := 0) rfl rfl rfl rfl rfl rfl (kl_61 _) (d_behind (d := d - 1) (q := q - (3 + 19)) (by omega) (by omega) hm (e := e) (r := m.2.1 62 1) (show 0 ≤ e ∧ e ≤ 9 by omega) (show (-2147483648) ≤ m.2.1 62 1 ∧ m.2.1 62 1 ≤ 2147483647 by omega)) (by omega) (show 3 + 19 ≤ q by omega) (Nat.le_of_ble_eq_true rfl) (Nat.le_of_ble_eq_true rfl) rfl rfl rfl ?_
  rintro z1 m2 ⟨rfl, p4, p5, p6⟩
  subst p4
  refine g_istore (n := 6) (lo' := [(5, vI (m.2.1 62 1)), (0, vR 61), (1, vI 0), (2, vI 1), (3, vI e), (4, vI 34)]) rfl rfl ?_
  refine g_iconst rfl ?_
  refine g_iload_n (n := 2) rfl rfl ?_
  refine g_isubE (z := 0) (by decide) rfl ?_
  refine g_istore (n := 7) (lo' := [(6, vI (beh (m.2.1 66) e (m.2.1 62 1))), (5, vI (m.2.1 62 1)), (0, vR 61), (1, vI 0), (2, vI 1), (3, vI e), (4, vI 34)]) rfl rfl ?_
  refine g_iload (n := 4) rfl rfl ?_
  refine g_bipush (by decide) rfl ?_
  refine g_icmp_ne (by decide) (by decide) (by decide) (by decide) rfl ?_ ?_
  · intro k7
    refine g_iconst rfl ?_
    refine g_istore (n := 8) (lo' := [(7, vI 0), (6, vI (beh (m.2.1 66) e (m.2.1 62 1))), (5, vI (m.2.1 62 1)), (0, vR 61), (1, vI 0), (2, vI 1), (3, vI e), (4, vI 34)]) rfl rfl ?_
    refine g_iload (n := 4) rfl rfl ?_
    refine g_bipush (by decide) rfl ?_
    refine g_icmp_ne (by decide) (by decide) (by decide) (by decide) rfl ?_ ?_
    · intro k8
      exfalso; omega
    · intro k9
      refine g_aload_n (n := 0) rfl rfl ?_
      refine g_getf (v := vR 62) rfl (kl_61 _) rfl ?_
      refine g_iload_n (n := 1) rfl rfl ?_
      refine g_iconst rfl ?_
      refine g_iaddE (z := 2) (by decide) rfl ?_
      refine g_iload_n (n := 2) rfl rfl ?_
      refine g_iaddE (z := 3) (by decide) rfl ?_
      refine g_ialE (f := m.2.1 62) (v := m.2.1 62 3) rfl (kl_62 _) (by decide) (by decide) (by decide) rfl ?_
      refine g_if_ne (by omega) (by omega) rfl ?_ ?_
      · intro k10
        refine g_iconst rfl ?_
        refine g_goto rfl ?_
        refine g_istore (n := 9) (lo' := [(8, vI 0), (7, vI 0), (6, vI (beh (m.2.1 66) e (m.2.1 62 1))), (5, vI (m.2.1 62 1)), (0, vR 61), (1, vI 0), (2, vI 1), (3, vI e), (4, vI 34)]) rfl rfl ?_
        refine g_iload (n := 6) rfl rfl ?_
        refine g_iconst rfl ?_
        refine g_icmp_eq (by omega) (by omega) (by decide) (by decide) rfl ?_ ?_
        · intro k11
          refine g_iconst rfl ?_
          refine g_zret rfl rfl (by omega) ?_
          refine ⟨_, _, rfl, hm, hf0, Or.inr ⟨rfl, ?_, rfl⟩, fun j hj => rfl⟩
          show goX_1 (m.2.1 66) (m.2.1 62 0, m.2.1 62 1, m.2.1 62 2, m.2.1 62 3, m.2.1 62 4, m.2.1 62 5, m.2.1 62 6) e = none
          dsimp only [goX_1]
          repeat (split <;> try (exfalso; omega))
          all_goals first | rfl | omega
        · intro k12
          refine g_iload (n := 9) rfl rfl ?_
          refine g_if_eq (by decide) (by decide) rfl ?_ ?_
          · intro k13
            refine g_iconst rfl ?_
            refine g_zret rfl rfl (by omega) ?_
            refine ⟨_, _, rfl, hm, hf0, Or.inr ⟨rfl, ?_, rfl⟩, fun j hj => rfl⟩
            show goX_1 (m.2.1 66) (m.2.1 62 0, m.2.1 62 1, m.2.1 62 2, m.2.1 62 3, m.2.1 62 4, m.2.1 62 5, m.2.1 62 6) e = none
            dsimp only [goX_1]
            repeat (split <;> try (exfalso; omega))
            all_goals first | rfl | omega
          · intro k14
            exfalso; omega
      · intro k15
        refine g_aload_n (n := 0) rfl rfl ?_
        refine g_getf (v := vR 62) rfl (kl_61 _) rfl ?_
        refine g_iload_n (n := 1) rfl rfl ?_
        refine g_bipush (by decide) rfl ?_
        refine g_iaddE (z := 6) (by decide) rfl ?_
        refine g_ialE (f := m.2.1 62) (v := m.2.1 62 6) rfl (kl_62 _) (by decide) (by decide) (by decide) rfl ?_
        refine g_if_le (by omega) (by omega) rfl ?_ ?_
        · intro k16
          refine g_iconst rfl ?_
          refine g_goto rfl ?_
          refine g_istore (n := 9) (lo' := [(8, vI 0), (7, vI 0), (6, vI (beh (m.2.1 66) e (m.2.1 62 1))), (5, vI (m.2.1 62 1)), (0, vR 61), (1, vI 0), (2, vI 1), (3, vI e), (4, vI 34)]) rfl rfl ?_
          refine g_iload (n := 6) rfl rfl ?_
          refine g_iconst rfl ?_
          refine g_icmp_eq (by omega) (by omega) (by decide) (by decide) rfl ?_ ?_
          · intro k17
            refine g_iconst rfl ?_
            refine g_zret rfl rfl (by omega) ?_
            refine ⟨_, _, rfl, hm, hf0, Or.inr ⟨rfl, ?_, rfl⟩, fun j hj => rfl⟩
            show goX_1 (m.2.1 66) (m.2.1 62 0, m.2.1 62 1, m.2.1 62 2, m.2.1 62 3, m.2.1 62 4, m.2.1 62 5, m.2.1 62 6) e = none
            dsimp only [goX_1]
            repeat (split <;> try (exfalso; omega))
            all_goals first | rfl | omega
          · intro k18
            refine g_iload (n := 9) rfl rfl ?_
            refine g_if_eq (by decide) (by decide) rfl ?_ ?_
            · intro k19
              refine g_iconst rfl ?_
              refine g_zret rfl rfl (by omega) ?_
              refine ⟨_, _, rfl, hm, hf0, Or.inr ⟨rfl, ?_, rfl⟩, fun j hj => rfl⟩
              show goX_1 (m.2.1 66) (m.2.1 62 0, m.2.1 62 1, m.2.1 62 2, m.2.1 62 3, m.2.1 62 4, m.2.1 62 5, m.2.1 62 6) e = none
              dsimp only [goX_1]
              repeat (split <;> try (exfalso; omega))
              all_goals first | rfl | omega
            · intro k20
              exfalso; omega
        · intro k21
          refine g_iconst rfl ?_
          refine g_goto rfl ?_
          refine g_istore (n := 9) (lo' := [(8, vI 0), (7, vI 0), (6, vI (beh (m.2.1 66) e (m.2.1 62 1))), (5, vI (m.2.1 62 1)), (0, vR 61), (1, vI 0), (2, vI 1), (3, vI e), (4, vI 34)]) rfl rfl ?_
          refine g_iload (n := 6) rfl rfl ?_
          refine g_iconst rfl ?_
          refine g_icmp_eq (by omega) (by omega) (by decide) (by decide) rfl ?_ ?_
          · intro k22
            refine g_iconst rfl ?_
            refine g_zret rfl rfl (by omega) ?_
            refine ⟨_, _, rfl, hm, hf0, Or.inr ⟨rfl, ?_, rfl⟩, fun j hj => rfl⟩
            show goX_1 (m.2.1 66) (m.2.1 62 0, m.2.1 62 1, m.2.1 62 2, m.2.1 62 3, m.2.1 62 4, m.2.1 62 5, m.2.1 62 6) e = none
            dsimp only [goX_1]
            repeat (split <;> try (exfalso; omega))
            all_goals first | rfl | omega
          · intro k23
            refine g_iload (n := 9) rfl rfl ?_
            refine g_if_eq (by decide) (by decide) rfl ?_ ?_
            · intro k24
              exfalso; omega
            · intro k25
              refine g_iload (n := 8) rfl rfl ?_
              refine g_if_eq (by decide) (by decide) rfl ?_ ?_
              · intro k26
                refine g_aload_n (n := 0) rfl rfl ?_
                refine g_iload_n (n := 3) rfl rfl ?_
                refine g_iload (n := 5) rfl rfl ?_
                refine g_iload (n := 4) rfl rfl ?_
                refine g_iload (n := 8) rfl rfl ?_
                refine g_if_eq (by decide) (by decide) rfl ?_ ?_
                · intro k27
                  refine g_iconst rfl ?_
                  refine c_vI (i := 61) (ps := [vI 0, vI 34, vI (m.2.1 62 1), vI e]) (r := []) (as := [vR 61, vI e, vI (m.2.1 62 1), vI 34, vI 0]) (cs' := 0) (sl' := 0) rfl rfl rfl rfl rfl rfl (kl_61 _) (d_opens (d := d - 1) (q := q - (5 + 19)) (by omega) (by omega) hm (e := e) (r := m.2.1 62 1) (v := 34) (l := 0) (show 0 ≤ e ∧ e ≤ 9 by omega) (show (-2147483648) ≤ m.2.1 62 1 ∧ m.2.1 62 1 ≤ 2147483647 by omega) (show (-2147483648) ≤ 34 ∧ 34 ≤ 2147483647 by omega) (show 0 ≤ 0 ∧ 0 ≤ 1 by omega)) (by omega) (show 5 + 19 ≤ q by omega) (Nat.le_of_ble_eq_true rfl) (Nat.le_of_ble_eq_true rfl) rfl rfl rfl ?_
                  rintro z28 m29 ⟨rfl, p31, p32⟩
                  subst p31
                  refine g_if_ne (by omega) (by omega) rfl ?_ ?_
                  · intro k33
                    refine g_aload_n (n := 0) rfl rfl ?_
                    refine g_getf (v := vR 62) rfl (kl_61 _) rfl ?_
                    refine g_iload_n (n := 1) rfl rfl ?_
                    refine g_iconst rfl ?_
                    refine g_iaddE (z := 0) (by decide) rfl ?_
                    refine g_iload_n (n := 2) rfl rfl ?_
                    refine g_iaddE (z := 1) (by decide) rfl ?_
                    refine g_iload (n := 6) rfl rfl ?_
                    refine g_iAst (f := m.2.1 62) (m' := (kA m 62 (up (m.2.1 62) 1 (beh (m.2.1 66) e (m.2.1 62 1))))) rfl (kl_62 _) (by decide) (by omega) (by omega) (kA_62 _ _) ?_
                    have hm34 : kI (kA m 62 (up (m.2.1 62) 1 (beh (m.2.1 66) e (m.2.1 62 1)))) := kI_U hm 62 rfl (show ((-2147483648) : Int) ≤ (beh (m.2.1 66) e (m.2.1 62 1)) by omega) (show (beh (m.2.1 66) e (m.2.1 62 1)) ≤ (2147483647 : Int) by omega)
                    have hf35 : fr [] [62] m (kA m 62 (up (m.2.1 62) 1 (beh (m.2.1 66) e (m.2.1 62 1)))) := fr_A hf0 62 _ rfl
                    refine g_aload_n (n := 0) rfl rfl ?_
                    refine g_getf (v := vR 62) rfl (kl_61 _) rfl ?_
                    refine g_iload_n (n := 1) rfl rfl ?_
                    refine g_iconst rfl ?_
                    refine g_iaddE (z := 0) (by decide) rfl ?_
                    refine g_iload (n := 7) rfl rfl ?_
                    refine g_iaddE (z := 0) (by decide) rfl ?_
                    refine g_iload (n := 8) rfl rfl ?_
                    refine g_if_eq (by decide) (by decide) rfl ?_ ?_
                    · intro k36
                      refine g_aload_n (n := 0) rfl rfl ?_
                      refine g_getf (v := vR 62) rfl (kl_61 _) rfl ?_
                      refine g_iload_n (n := 1) rfl rfl ?_
                      refine g_iconst rfl ?_
                      refine g_iaddE (z := 0) (by decide) rfl ?_
                      refine g_iload (n := 7) rfl rfl ?_
                      refine g_iaddE (z := 0) (by decide) rfl ?_
                      refine g_ialE (f := up (m.2.1 62) 1 (beh (m.2.1 66) e (m.2.1 62 1))) (v := m.2.1 62 0) rfl (kl_62 _) (by decide) (by decide) (by decide) rfl ?_
                      refine g_iAst (f := up (m.2.1 62) 1 (beh (m.2.1 66) e (m.2.1 62 1))) (m' := (kA (kA m 62 (up (m.2.1 62) 1 (beh (m.2.1 66) e (m.2.1 62 1)))) 62 (up (up (m.2.1 62) 1 (beh (m.2.1 66) e (m.2.1 62 1))) 0 (m.2.1 62 0)))) rfl (kl_62 _) (by decide) (by omega) (by omega) (kA_62 _ _) ?_
                      have hm37 : kI (kA (kA m 62 (up (m.2.1 62) 1 (beh (m.2.1 66) e (m.2.1 62 1)))) 62 (up (up (m.2.1 62) 1 (beh (m.2.1 66) e (m.2.1 62 1))) 0 (m.2.1 62 0))) := kI_U hm34 62 rfl (show ((-2147483648) : Int) ≤ m.2.1 62 0 by omega) (show m.2.1 62 0 ≤ (2147483647 : Int) by omega)
                      have hf38 : fr [] [62] m (kA (kA m 62 (up (m.2.1 62) 1 (beh (m.2.1 66) e (m.2.1 62 1)))) 62 (up (up (m.2.1 62) 1 (beh (m.2.1 66) e (m.2.1 62 1))) 0 (m.2.1 62 0))) := fr_A hf35 62 _ rfl
                      refine g_aload_n (n := 0) rfl rfl ?_
                      refine g_getf (v := vR 62) rfl (kl_61 _) rfl ?_
                      refine g_iload_n (n := 1) rfl rfl ?_
                      refine g_bipush (by decide) rfl ?_
                      refine g_iaddE (z := 6) (by decide) rfl ?_
                      refine g_dup2 rfl rfl rfl ?_
                      refine g_ialE (f := up (up (m.2.1 62) 1 (beh (m.2.1 66) e (m.2.1 62 1))) 0 (m.2.1 62 0)) (v := m.2.1 62 6) rfl (kl_62 _) (by decide) (by decide) (by decide) rfl ?_
                      refine g_iload (n := 4) rfl rfl ?_
                      refine g_bipush (by decide) rfl ?_
                      refine g_icmp_ne (by decide) (by decide) (by decide) (by decide) rfl ?_ ?_
                      · intro k39
                        exfalso; omega
                      · intro k40
                        refine g_iconst rfl ?_
                        refine g_goto rfl ?_
                        refine g_isub rfl ?_
                        refine g_iAst (f := up (up (m.2.1 62) 1 (beh (m.2.1 66) e (m.2.1 62 1))) 0 (m.2.1 62 0)) (m' := (kA (kA (kA m 62 (up (m.2.1 62) 1 (beh (m.2.1 66) e (m.2.1 62 1)))) 62 (up (up (m.2.1 62) 1 (beh (m.2.1 66) e (m.2.1 62 1))) 0 (m.2.1 62 0))) 62 (up (up (up (m.2.1 62) 1 (beh (m.2.1 66) e (m.2.1 62 1))) 0 (m.2.1 62 0)) 6 (m.2.1 62 6 - 1)))) rfl (kl_62 _) (by decide) (by omega) (by omega) (kA_62 _ _) ?_
                        have hm41 : kI (kA (kA (kA m 62 (up (m.2.1 62) 1 (beh (m.2.1 66) e (m.2.1 62 1)))) 62 (up (up (m.2.1 62) 1 (beh (m.2.1 66) e (m.2.1 62 1))) 0 (m.2.1 62 0))) 62 (up (up (up (m.2.1 62) 1 (beh (m.2.1 66) e (m.2.1 62 1))) 0 (m.2.1 62 0)) 6 (m.2.1 62 6 - 1))) := kI_U hm37 62 rfl (show ((-2147483648) : Int) ≤ (m.2.1 62 6 - 1) by omega) (show (m.2.1 62 6 - 1) ≤ (2147483647 : Int) by omega)
                        have hf42 : fr [] [62] m (kA (kA (kA m 62 (up (m.2.1 62) 1 (beh (m.2.1 66) e (m.2.1 62 1)))) 62 (up (up (m.2.1 62) 1 (beh (m.2.1 66) e (m.2.1 62 1))) 0 (m.2.1 62 0))) 62 (up (up (up (m.2.1 62) 1 (beh (m.2.1 66) e (m.2.1 62 1))) 0 (m.2.1 62 0)) 6 (m.2.1 62 6 - 1))) := fr_A hf38 62 _ rfl
                        refine g_aload_n (n := 0) rfl rfl ?_
                        refine g_getf (v := vR 62) rfl (kl_61 _) rfl ?_
                        refine g_iload_n (n := 1) rfl rfl ?_
                        refine g_iconst rfl ?_
                        refine g_iaddE (z := 4) (by decide) rfl ?_
                        refine g_iload (n := 4) rfl rfl ?_
                        refine g_bipush (by decide) rfl ?_
                        refine g_icmp_ne (by decide) (by decide) (by decide) (by decide) rfl ?_ ?_
                        · intro k43
                          exfalso; omega
                        · intro k44
                          refine g_aload_n (n := 0) rfl rfl ?_
                          refine g_getf (v := vR 62) rfl (kl_61 _) rfl ?_
                          refine g_iload_n (n := 1) rfl rfl ?_
                          refine g_iconst rfl ?_
                          refine g_iaddE (z := 4) (by decide) rfl ?_
                          refine g_ialE (f := up (up (up (m.2.1 62) 1 (beh (m.2.1 66) e (m.2.1 62 1))) 0 (m.2.1 62 0)) 6 (m.2.1 62 6 - 1)) (v := m.2.1 62 4) rfl (kl_62 _) (by decide) (by decide) (by decide) rfl ?_
                          refine g_goto rfl ?_
                          refine g_iAst (f := up (up (up (m.2.1 62) 1 (beh (m.2.1 66) e (m.2.1 62 1))) 0 (m.2.1 62 0)) 6 (m.2.1 62 6 - 1)) (m' := (kA (kA (kA (kA m 62 (up (m.2.1 62) 1 (beh (m.2.1 66) e (m.2.1 62 1)))) 62 (up (up (m.2.1 62) 1 (beh (m.2.1 66) e (m.2.1 62 1))) 0 (m.2.1 62 0))) 62 (up (up (up (m.2.1 62) 1 (beh (m.2.1 66) e (m.2.1 62 1))) 0 (m.2.1 62 0)) 6 (m.2.1 62 6 - 1))) 62 (up (up (up (up (m.2.1 62) 1 (beh (m.2.1 66) e (m.2.1 62 1))) 0 (m.2.1 62 0)) 6 (m.2.1 62 6 - 1)) 4 (m.2.1 62 4)))) rfl (kl_62 _) (by decide) (by omega) (by omega) (kA_62 _ _) ?_
                          have hm45 : kI (kA (kA (kA (kA m 62 (up (m.2.1 62) 1 (beh (m.2.1 66) e (m.2.1 62 1)))) 62 (up (up (m.2.1 62) 1 (beh (m.2.1 66) e (m.2.1 62 1))) 0 (m.2.1 62 0))) 62 (up (up (up (m.2.1 62) 1 (beh (m.2.1 66) e (m.2.1 62 1))) 0 (m.2.1 62 0)) 6 (m.2.1 62 6 - 1))) 62 (up (up (up (up (m.2.1 62) 1 (beh (m.2.1 66) e (m.2.1 62 1))) 0 (m.2.1 62 0)) 6 (m.2.1 62 6 - 1)) 4 (m.2.1 62 4))) := kI_U hm41 62 rfl (show ((-2147483648) : Int) ≤ m.2.1 62 4 by omega) (show m.2.1 62 4 ≤ (2147483647 : Int) by omega)
                          have hf46 : fr [] [62] m (kA (kA (kA (kA m 62 (up (m.2.1 62) 1 (beh (m.2.1 66) e (m.2.1 62 1)))) 62 (up (up (m.2.1 62) 1 (beh (m.2.1 66) e (m.2.1 62 1))) 0 (m.2.1 62 0))) 62 (up (up (up (m.2.1 62) 1 (beh (m.2.1 66) e (m.2.1 62 1))) 0 (m.2.1 62 0)) 6 (m.2.1 62 6 - 1))) 62 (up (up (up (up (m.2.1 62) 1 (beh (m.2.1 66) e (m.2.1 62 1))) 0 (m.2.1 62 0)) 6 (m.2.1 62 6 - 1)) 4 (m.2.1 62 4))) := fr_A hf42 62 _ rfl
                          refine g_aload_n (n := 0) rfl rfl ?_
                          refine g_getf (v := vR 62) rfl (kl_61 _) rfl ?_
                          refine g_iload_n (n := 1) rfl rfl ?_
                          refine g_iconst rfl ?_
                          refine g_iaddE (z := 2) (by decide) rfl ?_
                          refine g_iload_n (n := 2) rfl rfl ?_
                          refine g_iaddE (z := 3) (by decide) rfl ?_
                          refine g_iconst rfl ?_
                          refine g_iAst (f := up (up (up (up (m.2.1 62) 1 (beh (m.2.1 66) e (m.2.1 62 1))) 0 (m.2.1 62 0)) 6 (m.2.1 62 6 - 1)) 4 (m.2.1 62 4)) (m' := (kA (kA (kA (kA (kA m 62 (up (m.2.1 62) 1 (beh (m.2.1 66) e (m.2.1 62 1)))) 62 (up (up (m.2.1 62) 1 (beh (m.2.1 66) e (m.2.1 62 1))) 0 (m.2.1 62 0))) 62 (up (up (up (m.2.1 62) 1 (beh (m.2.1 66) e (m.2.1 62 1))) 0 (m.2.1 62 0)) 6 (m.2.1 62 6 - 1))) 62 (up (up (up (up (m.2.1 62) 1 (beh (m.2.1 66) e (m.2.1 62 1))) 0 (m.2.1 62 0)) 6 (m.2.1 62 6 - 1)) 4 (m.2.1 62 4))) 62 (up (up (up (up (up (m.2.1 62) 1 (beh (m.2.1 66) e (m.2.1 62 1))) 0 (m.2.1 62 0)) 6 (m.2.1 62 6 - 1)) 4 (m.2.1 62 4)) 3 0))) rfl (kl_62 _) (by decide) (by omega) (by omega) (kA_62 _ _) ?_
                          have hm47 : kI (kA (kA (kA (kA (kA m 62 (up (m.2.1 62) 1 (beh (m.2.1 66) e (m.2.1 62 1)))) 62 (up (up (m.2.1 62) 1 (beh (m.2.1 66) e (m.2.1 62 1))) 0 (m.2.1 62 0))) 62 (up (up (up (m.2.1 62) 1 (beh (m.2.1 66) e (m.2.1 62 1))) 0 (m.2.1 62 0)) 6 (m.2.1 62 6 - 1))) 62 (up (up (up (up (m.2.1 62) 1 (beh (m.2.1 66) e (m.2.1 62 1))) 0 (m.2.1 62 0)) 6 (m.2.1 62 6 - 1)) 4 (m.2.1 62 4))) 62 (up (up (up (up (up (m.2.1 62) 1 (beh (m.2.1 66) e (m.2.1 62 1))) 0 (m.2.1 62 0)) 6 (m.2.1 62 6 - 1)) 4 (m.2.1 62 4)) 3 0)) := kI_U hm45 62 rfl (show ((-2147483648) : Int) ≤ 0 by omega) (show 0 ≤ (2147483647 : Int) by omega)
                          have hf48 : fr [] [62] m (kA (kA (kA (kA (kA m 62 (up (m.2.1 62) 1 (beh (m.2.1 66) e (m.2.1 62 1)))) 62 (up (up (m.2.1 62) 1 (beh (m.2.1 66) e (m.2.1 62 1))) 0 (m.2.1 62 0))) 62 (up (up (up (m.2.1 62) 1 (beh (m.2.1 66) e (m.2.1 62 1))) 0 (m.2.1 62 0)) 6 (m.2.1 62 6 - 1))) 62 (up (up (up (up (m.2.1 62) 1 (beh (m.2.1 66) e (m.2.1 62 1))) 0 (m.2.1 62 0)) 6 (m.2.1 62 6 - 1)) 4 (m.2.1 62 4))) 62 (up (up (up (up (up (m.2.1 62) 1 (beh (m.2.1 66) e (m.2.1 62 1))) 0 (m.2.1 62 0)) 6 (m.2.1 62 6 - 1)) 4 (m.2.1 62 4)) 3 0)) := fr_A hf46 62 _ rfl
                          refine g_iconst rfl ?_
                          refine g_zret rfl rfl (by omega) ?_
                          refine ⟨_, _, rfl, hm47, hf48, Or.inl ⟨rfl, ?_⟩, (fun j hj => by show (up (up (up (up (up (m.2.1 62) 1 (beh (m.2.1 66) e (m.2.1 62 1))) 0 (m.2.1 62 0)) 6 (m.2.1 62 6 - 1)) 4 (m.2.1 62 4)) 3 0) j = m.2.1 62 j; rw [up_ne _ (by omega), up_ne _ (by omega), up_ne _ (by omega), up_ne _ (by omega), up_ne _ (by omega)])⟩
                          show goX_1 (m.2.1 66) (m.2.1 62 0, m.2.1 62 1, m.2.1 62 2, m.2.1 62 3, m.2.1 62 4, m.2.1 62 5, m.2.1 62 6) e = some (m.2.1 62 0, (beh (m.2.1 66) e (m.2.1 62 1)), m.2.1 62 2, 0, m.2.1 62 4, m.2.1 62 5, (m.2.1 62 6 - 1))
                          dsimp only [goX_1]
                          repeat (split <;> try (exfalso; omega))
                          all_goals first | rfl | omega
                    · intro k49
                      exfalso; omega
                  · intro k50
                    refine g_iconst rfl ?_
                    refine g_zret rfl rfl (by omega) ?_
                    refine ⟨_, _, rfl, hm, hf0, Or.inr ⟨rfl, ?_, rfl⟩, fun j hj => rfl⟩
                    show goX_1 (m.2.1 66) (m.2.1 62 0, m.2.1 62 1, m.2.1 62 2, m.2.1 62 3, m.2.1 62 4, m.2.1 62 5, m.2.1 62 6) e = none
                    dsimp only [goX_1]
                    repeat (split <;> try (exfalso; omega))
                    all_goals first | rfl | omega
                · intro k51
                  exfalso; omega
              · intro k52
                exfalso; omega
  · intro k53
    exfalso; omega
theorem d_does_0 {V : cg_V} {d q : Nat} (hd : 2 ≤ d) (hq : 53 ≤ q) {m : kM} (hm : kI m) {c : Int} (h_c : (-1) ≤ c ∧ c ≤ 99) (hw : kw (kr0 (m.2.1 62))) : cg_S V d q mX10_does [vR 61, vI 0, vI c] (kl m) (R_I (fun z m' => (kI m') ∧ (fr [] [62] m m') ∧ ((z = 1 ∧ stp (m.2.1 66) (m.1 26) (m.1 27) (kr0 (m.2.1 62)) c = some (kr0 (m'.2.1 62))) ∨ (z = 0 ∧ stp (m.2.1 66) (m.1 26) (m.1 27) (kr0 (m.2.1 62)) c = none ∧ (kr0 (m'.2.1 62)) = (kr0 (m.2.1 62)))) ∧ (∀ j : Int, (j < 0 ∨ 7 ≤ j) → m'.2.1 62 j = m.2.1 62 j))) := by
  have hf0 : fr [] [62] m m := fr_rf m
  refine cg_of (List.mem_of_getElem? (show ae_MT[151]? = some mX10_does from rfl)) (Nat.le_of_ble_eq_true rfl) ?_
  show cg_G V mX10_does d q _ 0 [(0, vR 61), (1, vI 0), (2, vI c)] [] (kl m) 0 0
  have h1 : 0 ≤ m.1 26 ∧ m.1 26 ≤ 10 := hm.1 26
  have h2 : 0 ≤ m.1 27 ∧ m.1 27 ≤ 5 := hm.1 27
  have w0 : 0 ≤ m.2.1 62 0 ∧ m.2.1 62 0 ≤ 5 := hw.1
  have w1 : 0 ≤ m.2.1 62 1 ∧ m.2.1 62 1 ≤ 5 := hw.2.1
  have w2 : 0 ≤ m.2.1 62 2 ∧ m.2.1 62 2 ≤ 2 := hw.2.2.1
  have w3 : 0 ≤ m.2.1 62 3 ∧ m.2.1 62 3 ≤ 2 := hw.2.2.2.1
  have w4 : (-1) ≤ m.2.1 62 4 ∧ m.2.1 62 4 ≤ 5 := hw.2.2.2.2.1
  have w5 : 0 ≤ m.2.1 62 5 ∧ m.2.1 62 5 ≤ 63 := hw.2.2.2.2.2.1
  have w6 : 0 ≤ m.2.1 62 6 ∧ m.2.1 62 6 ≤ 3 := hw.2.2.2.2.2.2.1
  have w7 : 0 ≤ m.2.1 62 4 ∨ m.2.1 62 2 = 2 ∨ m.2.1 62 3 = 2 := hw.2.2.2.2.2.2.2
  refine g_bipush (by decide) rfl ?_
  refine g_iload_n (n := 1) rfl rfl ?_
  refine g_imulE (z := 0) (by decide) rfl ?_
  refine g_istore_n (n := 3) (lo' := [(0, vR 61), (1, vI 0), (2, vI c)]) rfl rfl ?_
  refine g_iload_n (n := 2) rfl rfl ?_
  refine g_bipush (by decide) rfl ?_
  refine g_idivC (by omega) (by omega) (by decide) (by decide) rfl ?_
  intro z3 h4
  refine g_istore (n := 4) (lo' := [(3, vI 0), (0, vR 61), (1, vI 0), (2, vI c)]) rfl rfl ?_
  refine g_iload_n (n := 2) rfl rfl ?_
  refine g_bipush (by decide) rfl ?_
  refine g_iremC (by omega) (by omega) (by decide) (by decide) rfl ?_
  intro z5 h6
  refine g_istore (n := 5) (lo' := [(4, vI z3), (3, vI 0), (0, vR 61), (1, vI 0), (2, vI c)]) rfl rfl ?_
  have h7 : z3 = 0 ∨ z3 = 1 := by omega
  rcases h7 with rfl | rfl
  · refine g_iload (n := 5) rfl rfl ?_
    refine g_iconst rfl ?_
    refine g_icmp_ge (by omega) (by omega) (by decide) (by decide) rfl ?_ ?_
    · intro k8
      refine g_iload (n := 5) rfl rfl ?_
      refine g_iconst rfl ?_
      refine g_isub rfl ?_
      refine g_bipush (by decide) rfl ?_
      refine g_iremC (by omega) (by omega) (by decide) (by decide) rfl ?_
      intro z9 h10
      refine g_istore (n := 6) (lo' := [(5, vI z5), (4, vI 0), (3, vI 0), (0, vR 61), (1, vI 0), (2, vI c)]) rfl rfl ?_
      refine g_iload (n := 5) rfl rfl ?_
      refine g_iconst rfl ?_
      refine g_icmp_ge (by omega) (by omega) (by decide) (by decide) rfl ?_ ?_
      · intro k11
        refine g_iload (n := 5) rfl rfl ?_
        refine g_bipush (by decide) rfl ?_
        refine g_icmp_ge (by omega) (by omega) (by decide) (by decide) rfl ?_ ?_
        · intro k12
          refine g_iconst rfl ?_
          refine g_zret rfl rfl (by omega) ?_
          have hs : stp (m.2.1 66) (m.1 26) (m.1 27) (kr0 (m.2.1 62)) c = none := by
            unfold stp stp_0
            rw [if_pos (show c < 50 by omega), if_neg (show ¬ c < 4 by omega), if_pos (show 44 ≤ c ∨ m.1 26 ≤ (c - 4) % 10 by omega)]
          exact ⟨_, _, rfl, hm, hf0, Or.inr ⟨rfl, hs, rfl⟩, fun j hj => rfl⟩
        · intro k13
          refine g_iload (n := 6) rfl rfl ?_
          refine g_aload_n (n := 0) rfl rfl ?_
          refine g_getf (v := vI (m.1 26)) rfl (kl_61 _) rfl ?_
          refine g_icmp_lt (by omega) (by omega) (by omega) (by omega) rfl ?_ ?_
          · intro k14
            refine g_iload (n := 5) rfl rfl ?_
            refine g_bipush (by decide) rfl ?_
            refine g_icmp_ge (by omega) (by omega) (by decide) (by decide) rfl ?_ ?_
            · intro k15
              refine g_aload_n (n := 0) rfl rfl ?_
              refine g_iload_n (n := 3) rfl rfl ?_
              refine g_iload (n := 4) rfl rfl ?_
              refine g_iload (n := 6) rfl rfl ?_
              refine g_iload (n := 5) rfl rfl ?_
              refine g_bipush (by decide) rfl ?_
              refine g_icmp_ge (by omega) (by omega) (by decide) (by decide) rfl ?_ ?_
              · intro k16
                refine g_iload (n := 5) rfl rfl ?_
                refine g_bipush (by decide) rfl ?_
                refine g_icmp_ge (by omega) (by omega) (by decide) (by decide) rfl ?_ ?_
                · intro k17
                  refine g_bipush (by decide) rfl ?_
                  refine c_vI (i := 61) (ps := [vI 34, vI z9, vI 0, vI 0]) (r := []) (as := [vR 61, vI 0, vI 0, vI z9, vI 34]) (cs' := 0) (sl' := 0) rfl rfl rfl rfl rfl rfl (kl_61 _) (d_goX_0_0 (d := d - 1) (q := q - (10 + 19)) (by omega) (by omega) hm (e := z9) (show 0 ≤ z9 ∧ z9 ≤ 9 by omega) hw) (by omega) (show 10 + 19 ≤ q by omega) (Nat.le_of_ble_eq_true rfl) (Nat.le_of_ble_eq_true rfl) rfl rfl rfl ?_
                  rintro z18 m19 ⟨hm21, hc22, p23, p24⟩
                  have hf25 : fr [] [62] m m19 := fr_tr hf0 (fr_le hc22 rfl rfl)
                  have h26 : m19.1 26 = m.1 26 := hc22.1 26 rfl
                  have h27 : 0 ≤ m19.1 26 ∧ m19.1 26 ≤ 10 := hm21.1 26
                  have h28 : m19.1 27 = m.1 27 := hc22.1 27 rfl
                  have h29 : 0 ≤ m19.1 27 ∧ m19.1 27 ≤ 5 := hm21.1 27
                  refine g_zret rfl rfl (by omega) ?_
                  have e6 : z9 = (c - 4) % 10 := by omega
                  rw [e6] at p23
                  have hs : stp (m.2.1 66) (m.1 26) (m.1 27) (kr0 (m.2.1 62)) c = goX_0 (m.2.1 66) (kr0 (m.2.1 62)) ((c - 4) % 10) := by
                    unfold stp stp_0
                    rw [if_pos (show c < 50 by omega), if_neg (show ¬ c < 4 by omega), if_neg (show ¬ (44 ≤ c ∨ m.1 26 ≤ (c - 4) % 10) by omega), if_neg (show ¬ c < 14 by omega), if_neg (show ¬ c < 24 by omega), if_neg (show ¬ c < 34 by omega)]
                  rw [← hs] at p23
                  exact ⟨_, _, rfl, hm21, hf25, p23, p24⟩
                · intro k30
                  refine g_bipush (by decide) rfl ?_
                  refine g_goto rfl ?_
                  refine c_vI (i := 61) (ps := [vI 24, vI z9, vI 0, vI 0]) (r := []) (as := [vR 61, vI 0, vI 0, vI z9, vI 24]) (cs' := 0) (sl' := 0) rfl rfl rfl rfl rfl rfl (kl_61 _) (d_goB_0_0 (d := d - 1) (q := q - (10 + 19)) (by omega) (by omega) hm (e := z9) (show 0 ≤ z9 ∧ z9 ≤ 9 by omega) hw) (by omega) (show 10 + 19 ≤ q by omega) (Nat.le_of_ble_eq_true rfl) (Nat.le_of_ble_eq_true rfl) rfl rfl rfl ?_
                  rintro z31 m32 ⟨hm34, hc35, p36, p37⟩
                  have hf38 : fr [] [62] m m32 := fr_tr hf0 (fr_le hc35 rfl rfl)
                  have h39 : m32.1 26 = m.1 26 := hc35.1 26 rfl
                  have h40 : 0 ≤ m32.1 26 ∧ m32.1 26 ≤ 10 := hm34.1 26
                  have h41 : m32.1 27 = m.1 27 := hc35.1 27 rfl
                  have h42 : 0 ≤ m32.1 27 ∧ m32.1 27 ≤ 5 := hm34.1 27
                  refine g_zret rfl rfl (by omega) ?_
                  have e6 : z9 = (c - 4) % 10 := by omega
                  rw [e6] at p36
                  have hs : stp (m.2.1 66) (m.1 26) (m.1 27) (kr0 (m.2.1 62)) c = goB_0 (m.2.1 66) (kr0 (m.2.1 62)) ((c - 4) % 10) := by
                    unfold stp stp_0
                    rw [if_pos (show c < 50 by omega), if_neg (show ¬ c < 4 by omega), if_neg (show ¬ (44 ≤ c ∨ m.1 26 ≤ (c - 4) % 10) by omega), if_neg (show ¬ c < 14 by omega), if_neg (show ¬ c < 24 by omega), if_pos (show c < 34 by omega)]
                  rw [← hs] at p36
                  exact ⟨_, _, rfl, hm34, hf38, p36, p37⟩
              · intro k43
                refine g_bipush (by decide) rfl ?_
                refine g_goto rfl ?_
                refine c_vI (i := 61) (ps := [vI 14, vI z9, vI 0, vI 0]) (r := []) (as := [vR 61, vI 0, vI 0, vI z9, vI 14]) (cs' := 0) (sl' := 0) rfl rfl rfl rfl rfl rfl (kl_61 _) (d_goS_0_0 (d := d - 1) (q := q - (10 + 19)) (by omega) (by omega) hm (e := z9) (show 0 ≤ z9 ∧ z9 ≤ 9 by omega) hw) (by omega) (show 10 + 19 ≤ q by omega) (Nat.le_of_ble_eq_true rfl) (Nat.le_of_ble_eq_true rfl) rfl rfl rfl ?_
                rintro z44 m45 ⟨hm47, hc48, p49, p50⟩
                have hf51 : fr [] [62] m m45 := fr_tr hf0 (fr_le hc48 rfl rfl)
                have h52 : m45.1 26 = m.1 26 := hc48.1 26 rfl
                have h53 : 0 ≤ m45.1 26 ∧ m45.1 26 ≤ 10 := hm47.1 26
                have h54 : m45.1 27 = m.1 27 := hc48.1 27 rfl
                have h55 : 0 ≤ m45.1 27 ∧ m45.1 27 ≤ 5 := hm47.1 27
                refine g_zret rfl rfl (by omega) ?_
                have e6 : z9 = (c - 4) % 10 := by omega
                rw [e6] at p49
                have hs : stp (m.2.1 66) (m.1 26) (m.1 27) (kr0 (m.2.1 62)) c = goS_0 (m.2.1 66) (kr0 (m.2.1 62)) ((c - 4) % 10) := by
                  unfold stp stp_0
                  rw [if_pos (show c < 50 by omega), if_neg (show ¬ c < 4 by omega), if_neg (show ¬ (44 ≤ c ∨ m.1 26 ≤ (c - 4) % 10) by omega), if_neg (show ¬ c < 14 by omega), if_pos (show c < 24 by omega)]
                rw [← hs] at p49
                exact ⟨_, _, rfl, hm47, hf51, p49, p50⟩
            · intro k56
              refine g_aload_n (n := 0) rfl rfl ?_
              refine g_iload_n (n := 3) rfl rfl ?_
              refine g_iload (n := 4) rfl rfl ?_
              refine g_iload (n := 6) rfl rfl ?_
              refine c_vI (i := 61) (ps := [vI z9, vI 0, vI 0]) (r := []) (as := [vR 61, vI 0, vI 0, vI z9]) (cs' := 0) (sl' := 0) rfl rfl rfl rfl rfl rfl (kl_61 _) (d_hands_0_0 (d := d - 1) (q := q - (7 + 19)) (by omega) (by omega) hm (e := z9) (show 0 ≤ z9 ∧ z9 ≤ 9 by omega) hw) (by omega) (show 7 + 19 ≤ q by omega) (Nat.le_of_ble_eq_true rfl) (Nat.le_of_ble_eq_true rfl) rfl rfl rfl ?_
              rintro z57 m58 ⟨hm60, hc61, p62, p63⟩
              have hf64 : fr [] [62] m m58 := fr_tr hf0 (fr_le hc61 rfl rfl)
              have h65 : m58.1 26 = m.1 26 := hc61.1 26 rfl
              have h66 : 0 ≤ m58.1 26 ∧ m58.1 26 ≤ 10 := hm60.1 26
              have h67 : m58.1 27 = m.1 27 := hc61.1 27 rfl
              have h68 : 0 ≤ m58.1 27 ∧ m58.1 27 ≤ 5 := hm60.1 27
              refine g_goto rfl ?_
              refine g_zret rfl rfl (by omega) ?_
              have e6 : z9 = (c - 4) % 10 := by omega
              rw [e6] at p62
              have hs : stp (m.2.1 66) (m.1 26) (m.1 27) (kr0 (m.2.1 62)) c = hand_0 (m.2.1 66) (kr0 (m.2.1 62)) ((c - 4) % 10) := by
                unfold stp stp_0
                rw [if_pos (show c < 50 by omega), if_neg (show ¬ c < 4 by omega), if_neg (show ¬ (44 ≤ c ∨ m.1 26 ≤ (c - 4) % 10) by omega), if_pos (show c < 14 by omega)]
              rw [← hs] at p62
              exact ⟨_, _, rfl, hm60, hf64, p62, p63⟩
          · intro k69
            refine g_iconst rfl ?_
            refine g_zret rfl rfl (by omega) ?_
            have hs : stp (m.2.1 66) (m.1 26) (m.1 27) (kr0 (m.2.1 62)) c = none := by
              unfold stp stp_0
              rw [if_pos (show c < 50 by omega), if_neg (show ¬ c < 4 by omega), if_pos (show 44 ≤ c ∨ m.1 26 ≤ (c - 4) % 10 by omega)]
            exact ⟨_, _, rfl, hm, hf0, Or.inr ⟨rfl, hs, rfl⟩, fun j hj => rfl⟩
      · intro k70
        exfalso; omega
    · intro k71
      refine g_iconst rfl ?_
      refine g_goto rfl ?_
      refine g_istore (n := 6) (lo' := [(5, vI z5), (4, vI 0), (3, vI 0), (0, vR 61), (1, vI 0), (2, vI c)]) rfl rfl ?_
      refine g_iload (n := 5) rfl rfl ?_
      refine g_iconst rfl ?_
      refine g_icmp_ge (by omega) (by omega) (by decide) (by decide) rfl ?_ ?_
      · intro k72
        exfalso; omega
      · intro k73
        refine g_aload_n (n := 0) rfl rfl ?_
        refine g_iload_n (n := 3) rfl rfl ?_
        refine g_iload (n := 4) rfl rfl ?_
        refine g_iload (n := 5) rfl rfl ?_
        refine c_vI (i := 61) (ps := [vI z5, vI 0, vI 0]) (r := []) (as := [vR 61, vI 0, vI 0, vI z5]) (cs' := 0) (sl' := 0) rfl rfl rfl rfl rfl rfl (kl_61 _) (d_stays_0_0 (d := d - 1) (q := q - (7 + 19)) (by omega) (by omega) hm (a := z5) (show (-1) ≤ z5 ∧ z5 ≤ 3 by omega) hw) (by omega) (show 7 + 19 ≤ q by omega) (Nat.le_of_ble_eq_true rfl) (Nat.le_of_ble_eq_true rfl) rfl rfl rfl ?_
        rintro z74 m75 ⟨hm77, hc78, p79, p80⟩
        have hf81 : fr [] [62] m m75 := fr_tr hf0 (fr_le hc78 rfl rfl)
        have h82 : m75.1 26 = m.1 26 := hc78.1 26 rfl
        have h83 : 0 ≤ m75.1 26 ∧ m75.1 26 ≤ 10 := hm77.1 26
        have h84 : m75.1 27 = m.1 27 := hc78.1 27 rfl
        have h85 : 0 ≤ m75.1 27 ∧ m75.1 27 ≤ 5 := hm77.1 27
        refine g_zret rfl rfl (by omega) ?_
        have e5 : z5 = c := by omega
        rw [e5] at p79
        have hs : stp (m.2.1 66) (m.1 26) (m.1 27) (kr0 (m.2.1 62)) c = stay_0 (m.1 27) (kr0 (m.2.1 62)) c := by
          unfold stp stp_0
          rw [if_pos (show c < 50 by omega), if_pos (show c < 4 by omega)]
        rw [← hs] at p79
        exact ⟨_, _, rfl, hm77, hf81, p79, p80⟩
  · refine g_iload (n := 5) rfl rfl ?_
    refine g_iconst rfl ?_
    refine g_icmp_ge (by omega) (by omega) (by decide) (by decide) rfl ?_ ?_
    · intro k86
      refine g_iload (n := 5) rfl rfl ?_
      refine g_iconst rfl ?_
      refine g_isub rfl ?_
      refine g_bipush (by decide) rfl ?_
      refine g_iremC (by omega) (by omega) (by decide) (by decide) rfl ?_
      intro z87 h88
      refine g_istore (n := 6) (lo' := [(5, vI z5), (4, vI 1), (3, vI 0), (0, vR 61), (1, vI 0), (2, vI c)]) rfl rfl ?_
      refine g_iload (n := 5) rfl rfl ?_
      refine g_iconst rfl ?_
      refine g_icmp_ge (by omega) (by omega) (by decide) (by decide) rfl ?_ ?_
      · intro k89
        refine g_iload (n := 5) rfl rfl ?_
        refine g_bipush (by decide) rfl ?_
        refine g_icmp_ge (by omega) (by omega) (by decide) (by decide) rfl ?_ ?_
        · intro k90
          refine g_iconst rfl ?_
          refine g_zret rfl rfl (by omega) ?_
          have hs : stp (m.2.1 66) (m.1 26) (m.1 27) (kr0 (m.2.1 62)) c = none := by
            unfold stp stp_1
            rw [if_neg (show ¬ c < 50 by omega), if_neg (show ¬ (c - 50) < 4 by omega), if_pos (show 44 ≤ (c - 50) ∨ m.1 26 ≤ ((c - 50) - 4) % 10 by omega)]
          exact ⟨_, _, rfl, hm, hf0, Or.inr ⟨rfl, hs, rfl⟩, fun j hj => rfl⟩
        · intro k91
          refine g_iload (n := 6) rfl rfl ?_
          refine g_aload_n (n := 0) rfl rfl ?_
          refine g_getf (v := vI (m.1 26)) rfl (kl_61 _) rfl ?_
          refine g_icmp_lt (by omega) (by omega) (by omega) (by omega) rfl ?_ ?_
          · intro k92
            refine g_iload (n := 5) rfl rfl ?_
            refine g_bipush (by decide) rfl ?_
            refine g_icmp_ge (by omega) (by omega) (by decide) (by decide) rfl ?_ ?_
            · intro k93
              refine g_aload_n (n := 0) rfl rfl ?_
              refine g_iload_n (n := 3) rfl rfl ?_
              refine g_iload (n := 4) rfl rfl ?_
              refine g_iload (n := 6) rfl rfl ?_
              refine g_iload (n := 5) rfl rfl ?_
              refine g_bipush (by decide) rfl ?_
              refine g_icmp_ge (by omega) (by omega) (by decide) (by decide) rfl ?_ ?_
              · intro k94
                refine g_iload (n := 5) rfl rfl ?_
                refine g_bipush (by decide) rfl ?_
                refine g_icmp_ge (by omega) (by omega) (by decide) (by decide) rfl ?_ ?_
                · intro k95
                  refine g_bipush (by decide) rfl ?_
                  refine c_vI (i := 61) (ps := [vI 34, vI z87, vI 1, vI 0]) (r := []) (as := [vR 61, vI 0, vI 1, vI z87, vI 34]) (cs' := 0) (sl' := 0) rfl rfl rfl rfl rfl rfl (kl_61 _) (d_goX_0_1 (d := d - 1) (q := q - (10 + 19)) (by omega) (by omega) hm (e := z87) (show 0 ≤ z87 ∧ z87 ≤ 9 by omega) hw) (by omega) (show 10 + 19 ≤ q by omega) (Nat.le_of_ble_eq_true rfl) (Nat.le_of_ble_eq_true rfl) rfl rfl rfl ?_
                  rintro z96 m97 ⟨hm99, hc100, p101, p102⟩
                  have hf103 : fr [] [62] m m97 := fr_tr hf0 (fr_le hc100 rfl rfl)
                  have h104 : m97.1 26 = m.1 26 := hc100.1 26 rfl
                  have h105 : 0 ≤ m97.1 26 ∧ m97.1 26 ≤ 10 := hm99.1 26
                  have h106 : m97.1 27 = m.1 27 := hc100.1 27 rfl
                  have h107 : 0 ≤ m97.1 27 ∧ m97.1 27 ≤ 5 := hm99.1 27
                  refine g_zret rfl rfl (by omega) ?_
                  have e6 : z87 = ((c - 50) - 4) % 10 := by omega
                  rw [e6] at p101
                  have hs : stp (m.2.1 66) (m.1 26) (m.1 27) (kr0 (m.2.1 62)) c = goX_1 (m.2.1 66) (kr0 (m.2.1 62)) (((c - 50) - 4) % 10) := by
                    unfold stp stp_1
                    rw [if_neg (show ¬ c < 50 by omega), if_neg (show ¬ (c - 50) < 4 by omega), if_neg (show ¬ (44 ≤ (c - 50) ∨ m.1 26 ≤ ((c - 50) - 4) % 10) by omega), if_neg (show ¬ (c - 50) < 14 by omega), if_neg (show ¬ (c - 50) < 24 by omega), if_neg (show ¬ (c - 50) < 34 by omega)]
                  rw [← hs] at p101
                  exact ⟨_, _, rfl, hm99, hf103, p101, p102⟩
                · intro k108
                  refine g_bipush (by decide) rfl ?_
                  refine g_goto rfl ?_
                  refine c_vI (i := 61) (ps := [vI 24, vI z87, vI 1, vI 0]) (r := []) (as := [vR 61, vI 0, vI 1, vI z87, vI 24]) (cs' := 0) (sl' := 0) rfl rfl rfl rfl rfl rfl (kl_61 _) (d_goB_0_1 (d := d - 1) (q := q - (10 + 19)) (by omega) (by omega) hm (e := z87) (show 0 ≤ z87 ∧ z87 ≤ 9 by omega) hw) (by omega) (show 10 + 19 ≤ q by omega) (Nat.le_of_ble_eq_true rfl) (Nat.le_of_ble_eq_true rfl) rfl rfl rfl ?_
                  rintro z109 m110 ⟨hm112, hc113, p114, p115⟩
                  have hf116 : fr [] [62] m m110 := fr_tr hf0 (fr_le hc113 rfl rfl)
                  have h117 : m110.1 26 = m.1 26 := hc113.1 26 rfl
                  have h118 : 0 ≤ m110.1 26 ∧ m110.1 26 ≤ 10 := hm112.1 26
                  have h119 : m110.1 27 = m.1 27 := hc113.1 27 rfl
                  have h120 : 0 ≤ m110.1 27 ∧ m110.1 27 ≤ 5 := hm112.1 27
                  refine g_zret rfl rfl (by omega) ?_
                  have e6 : z87 = ((c - 50) - 4) % 10 := by omega
                  rw [e6] at p114
                  have hs : stp (m.2.1 66) (m.1 26) (m.1 27) (kr0 (m.2.1 62)) c = goB_1 (m.2.1 66) (kr0 (m.2.1 62)) (((c - 50) - 4) % 10) := by
                    unfold stp stp_1
                    rw [if_neg (show ¬ c < 50 by omega), if_neg (show ¬ (c - 50) < 4 by omega), if_neg (show ¬ (44 ≤ (c - 50) ∨ m.1 26 ≤ ((c - 50) - 4) % 10) by omega), if_neg (show ¬ (c - 50) < 14 by omega), if_neg (show ¬ (c - 50) < 24 by omega), if_pos (show (c - 50) < 34 by omega)]
                  rw [← hs] at p114
                  exact ⟨_, _, rfl, hm112, hf116, p114, p115⟩
              · intro k121
                refine g_bipush (by decide) rfl ?_
                refine g_goto rfl ?_
                refine c_vI (i := 61) (ps := [vI 14, vI z87, vI 1, vI 0]) (r := []) (as := [vR 61, vI 0, vI 1, vI z87, vI 14]) (cs' := 0) (sl' := 0) rfl rfl rfl rfl rfl rfl (kl_61 _) (d_goS_0_1 (d := d - 1) (q := q - (10 + 19)) (by omega) (by omega) hm (e := z87) (show 0 ≤ z87 ∧ z87 ≤ 9 by omega) hw) (by omega) (show 10 + 19 ≤ q by omega) (Nat.le_of_ble_eq_true rfl) (Nat.le_of_ble_eq_true rfl) rfl rfl rfl ?_
                rintro z122 m123 ⟨hm125, hc126, p127, p128⟩
                have hf129 : fr [] [62] m m123 := fr_tr hf0 (fr_le hc126 rfl rfl)
                have h130 : m123.1 26 = m.1 26 := hc126.1 26 rfl
                have h131 : 0 ≤ m123.1 26 ∧ m123.1 26 ≤ 10 := hm125.1 26
                have h132 : m123.1 27 = m.1 27 := hc126.1 27 rfl
                have h133 : 0 ≤ m123.1 27 ∧ m123.1 27 ≤ 5 := hm125.1 27
                refine g_zret rfl rfl (by omega) ?_
                have e6 : z87 = ((c - 50) - 4) % 10 := by omega
                rw [e6] at p127
                have hs : stp (m.2.1 66) (m.1 26) (m.1 27) (kr0 (m.2.1 62)) c = goS_1 (m.2.1 66) (kr0 (m.2.1 62)) (((c - 50) - 4) % 10) := by
                  unfold stp stp_1
                  rw [if_neg (show ¬ c < 50 by omega), if_neg (show ¬ (c - 50) < 4 by omega), if_neg (show ¬ (44 ≤ (c - 50) ∨ m.1 26 ≤ ((c - 50) - 4) % 10) by omega), if_neg (show ¬ (c - 50) < 14 by omega), if_pos (show (c - 50) < 24 by omega)]
                rw [← hs] at p127
                exact ⟨_, _, rfl, hm125, hf129, p127, p128⟩
            · intro k134
              refine g_aload_n (n := 0) rfl rfl ?_
              refine g_iload_n (n := 3) rfl rfl ?_
              refine g_iload (n := 4) rfl rfl ?_
              refine g_iload (n := 6) rfl rfl ?_
              refine c_vI (i := 61) (ps := [vI z87, vI 1, vI 0]) (r := []) (as := [vR 61, vI 0, vI 1, vI z87]) (cs' := 0) (sl' := 0) rfl rfl rfl rfl rfl rfl (kl_61 _) (d_hands_0_1 (d := d - 1) (q := q - (7 + 19)) (by omega) (by omega) hm (e := z87) (show 0 ≤ z87 ∧ z87 ≤ 9 by omega) hw) (by omega) (show 7 + 19 ≤ q by omega) (Nat.le_of_ble_eq_true rfl) (Nat.le_of_ble_eq_true rfl) rfl rfl rfl ?_
              rintro z135 m136 ⟨hm138, hc139, p140, p141⟩
              have hf142 : fr [] [62] m m136 := fr_tr hf0 (fr_le hc139 rfl rfl)
              have h143 : m136.1 26 = m.1 26 := hc139.1 26 rfl
              have h144 : 0 ≤ m136.1 26 ∧ m136.1 26 ≤ 10 := hm138.1 26
              have h145 : m136.1 27 = m.1 27 := hc139.1 27 rfl
              have h146 : 0 ≤ m136.1 27 ∧ m136.1 27 ≤ 5 := hm138.1 27
              refine g_goto rfl ?_
              refine g_zret rfl rfl (by omega) ?_
              have e6 : z87 = ((c - 50) - 4) % 10 := by omega
              rw [e6] at p140
              have hs : stp (m.2.1 66) (m.1 26) (m.1 27) (kr0 (m.2.1 62)) c = hand_1 (m.2.1 66) (kr0 (m.2.1 62)) (((c - 50) - 4) % 10) := by
                unfold stp stp_1
                rw [if_neg (show ¬ c < 50 by omega), if_neg (show ¬ (c - 50) < 4 by omega), if_neg (show ¬ (44 ≤ (c - 50) ∨ m.1 26 ≤ ((c - 50) - 4) % 10) by omega), if_pos (show (c - 50) < 14 by omega)]
              rw [← hs] at p140
              exact ⟨_, _, rfl, hm138, hf142, p140, p141⟩
          · intro k147
            refine g_iconst rfl ?_
            refine g_zret rfl rfl (by omega) ?_
            have hs : stp (m.2.1 66) (m.1 26) (m.1 27) (kr0 (m.2.1 62)) c = none := by
              unfold stp stp_1
              rw [if_neg (show ¬ c < 50 by omega), if_neg (show ¬ (c - 50) < 4 by omega), if_pos (show 44 ≤ (c - 50) ∨ m.1 26 ≤ ((c - 50) - 4) % 10 by omega)]
            exact ⟨_, _, rfl, hm, hf0, Or.inr ⟨rfl, hs, rfl⟩, fun j hj => rfl⟩
      · intro k148
        exfalso; omega
    · intro k149
      refine g_iconst rfl ?_
      refine g_goto rfl ?_
      refine g_istore (n := 6) (lo' := [(5, vI z5), (4, vI 1), (3, vI 0), (0, vR 61), (1, vI 0), (2, vI c)]) rfl rfl ?_
      refine g_iload (n := 5) rfl rfl ?_
      refine g_iconst rfl ?_
      refine g_icmp_ge (by omega) (by omega) (by decide) (by decide) rfl ?_ ?_
      · intro k150
        exfalso; omega
      · intro k151
        refine g_aload_n (n := 0) rfl rfl ?_
        refine g_iload_n (n := 3) rfl rfl ?_
        refine g_iload (n := 4) rfl rfl ?_
        refine g_iload (n := 5) rfl rfl ?_
        refine c_vI (i := 61) (ps := [vI z5, vI 1, vI 0]) (r := []) (as := [vR 61, vI 0, vI 1, vI z5]) (cs' := 0) (sl' := 0) rfl rfl rfl rfl rfl rfl (kl_61 _) (d_stays_0_1 (d := d - 1) (q := q - (7 + 19)) (by omega) (by omega) hm (a := z5) (show (-1) ≤ z5 ∧ z5 ≤ 3 by omega) hw) (by omega) (show 7 + 19 ≤ q by omega) (Nat.le_of_ble_eq_true rfl) (Nat.le_of_ble_eq_true rfl) rfl rfl rfl ?_
        rintro z152 m153 ⟨hm155, hc156, p157, p158⟩
        have hf159 : fr [] [62] m m153 := fr_tr hf0 (fr_le hc156 rfl rfl)
        have h160 : m153.1 26 = m.1 26 := hc156.1 26 rfl
        have h161 : 0 ≤ m153.1 26 ∧ m153.1 26 ≤ 10 := hm155.1 26
        have h162 : m153.1 27 = m.1 27 := hc156.1 27 rfl
        have h163 : 0 ≤ m153.1 27 ∧ m153.1 27 ≤ 5 := hm155.1 27
        refine g_zret rfl rfl (by omega) ?_
        have e5 : z5 = (c - 50) := by omega
        rw [e5] at p157
        have hs : stp (m.2.1 66) (m.1 26) (m.1 27) (kr0 (m.2.1 62)) c = stay_1 (m.1 27) (kr0 (m.2.1 62)) (c - 50) := by
          unfold stp stp_1
          rw [if_neg (show ¬ c < 50 by omega), if_pos (show (c - 50) < 4 by omega)]
        rw [← hs] at p157
        exact ⟨_, _, rfl, hm155, hf159, p157, p158⟩
