/-! ===== contracts: the class, words and numbers ===== -/
theorem g_slen {V : cg_V} {me : ae_M} {d q : Nat} {Rs : ae_R → Prop} {pc nx i1 i2 i3 pos idx k n : Nat} {lo : ae_L} {st : List ae_V} {w : List ae_C} {cs sl : Nat} {x : Int} (hi : cg_at me pc = some (.invokevirtual idx, nx, i1, i2, i3, pos)) (h2 : i2 = 0) (h3 : i3 = 0) (hn : ae_SN[k]? = some n) (hx : ae_c (Int32.ofInt x) = n) (hd : 2 ≤ d) (hq : 80 ≤ q) (hwd : ae_wd st ≤ 8) (kk : cg_G V me d q Rs nx lo (vI x :: st) w cs sl) : cg_G V me d q Rs pc lo (vE (k + 2) :: st) w cs sl := by
  subst h2
  subst h3
  refine cg_step hi ?_
  show ae_if (Nat.beq 0 0 && (Nat.ble 2 (k + 2) && (Nat.ble 2 d && (Nat.ble 80 q && Nat.ble (ae_wd st) 8)))) (ae_some (ae_nth ae_SN (k + 2 - 2)) (fun n => cg_ind (cg_G V me d q Rs) (cg_du me) nx lo (.inl (.inl n) :: st) w cs sl)) = _
  rw [Nat.ble_eq_true_of_le (show 2 ≤ k + 2 by omega), Nat.ble_eq_true_of_le hd, Nat.ble_eq_true_of_le hq, Nat.ble_eq_true_of_le hwd, ae_nth_eq, Nat.add_sub_cancel, hn]
  show cg_ind (cg_G V me d q Rs) (cg_du me) nx lo (.inl (.inl n) :: st) w cs sl = _
  have e : vI x = .inl (.inl n) := by unfold vI; rw [hx]
  rw [← e]
  exact cg_pos kk
theorem c_wordOf_0 {V : cg_V} {d q : Nat} (hd : 0 ≤ d) (hq : 0 ≤ q) {m : kM} (hm : kI m) : cg_S V d q mX6_wordOf [vI 0] (kl m) (R_A (fun a m' => m = m' ∧ a = .inr 2)) := by
  refine cg_of (List.mem_of_getElem? (show ae_MT[69]? = some mX6_wordOf from rfl)) (Nat.le_of_ble_eq_true rfl) ?_
  show cg_G V mX6_wordOf d q _ 0 [(0, vI 0)] [] (kl m) 0 0
  refine g_iload_n (n := 0) rfl rfl ?_
  have kk1 : 0 = 0 := by omega
  refine g_tsw_in (tg := 60) (o9 := 59) (by omega) (by omega) rfl (by omega) (by omega) (rfl) (by decide) ?_
  refine g_ldcs rfl rfl rfl ?_
  refine g_aret rfl rfl ?_
  exact ⟨_, _, rfl, rfl, rfl⟩
theorem c_isHere_0 {V : cg_V} {d q : Nat} (hd : 4 ≤ d) (hq : 85 ≤ q) {m : kM} (hm : kI m) : cg_S V d q mX6_isHere [vR 1, vE 2] (kl m) (R_I (fun z m' => (m = m') ∧ ((z = 1 ∧ wd0 (m.2.1 2) (m.1 5) (m.1 6)) ∨ (z = 0 ∧ ¬ wd0 (m.2.1 2) (m.1 5) (m.1 6))))) := by
  refine cg_of (List.mem_of_getElem? (show ae_MT[72]? = some mX6_isHere from rfl)) (Nat.le_of_ble_eq_true rfl) ?_
  show cg_G V mX6_isHere d q _ 0 [(0, vR 1), (1, vE 2)] [] (kl m) 0 0
  have h1 : 0 ≤ m.1 5 ∧ m.1 5 ≤ 200 := hm.1 5
  have h2 : 0 ≤ m.1 6 ∧ m.1 6 ≤ 200 := hm.1 6
  refine g_aload_n (n := 1) rfl rfl ?_
  refine g_slen (k := 0) (n := 5) (x := 5) rfl rfl rfl rfl (by decide) (by omega) (by omega) (Nat.le_of_ble_eq_true rfl) ?_
  refine g_aload_n (n := 0) rfl rfl ?_
  refine g_getf (v := vI (m.1 6)) rfl (kl_1 _) rfl ?_
  refine g_aload_n (n := 0) rfl rfl ?_
  refine g_getf (v := vI (m.1 5)) rfl (kl_1 _) rfl ?_
  refine g_isub rfl ?_
  refine g_icmp_eq (by decide) (by decide) (by omega) (by omega) rfl ?_ ?_
  · intro kk3
    refine g_iconst rfl ?_
    refine g_istore_n (n := 2) (lo' := [(0, vR 1), (1, vE 2)]) rfl rfl ?_
    refine g_iload_n (n := 2) rfl rfl ?_
    refine g_aload_n (n := 1) rfl rfl ?_
    refine g_slen (k := 0) (n := 5) (x := 5) rfl rfl rfl rfl (by decide) (by omega) (by omega) (Nat.le_of_ble_eq_true rfl) ?_
    refine g_icmp_ge (by decide) (by decide) (by decide) (by decide) rfl ?_ ?_
    · intro kk4
      exfalso; omega
    · intro kk5
      refine g_aload_n (n := 1) rfl rfl ?_
      refine g_iload_n (n := 2) rfl rfl ?_
      refine g_chr (k := 0) (j := 0) (idx := 117) (ch := 112) (by decide) (by decide) (by decide +kernel) (by omega) (by omega) (by decide +kernel) (show decode cX6_isHere 30 = .ok (.invokevirtual 117, 3) by decide +kernel) (Nat.le_of_ble_eq_true rfl) ?_
      refine g_aload_n (n := 0) rfl rfl ?_
      refine g_getf (v := vR 2) rfl (kl_1 _) rfl ?_
      refine g_aload_n (n := 0) rfl rfl ?_
      refine g_getf (v := vI (m.1 5)) rfl (kl_1 _) rfl ?_
      refine g_iload_n (n := 2) rfl rfl ?_
      refine g_iaddE (z := m.1 5) (by omega) rfl ?_
      have h6 : 0 ≤ m.2.1 2 (m.1 5) ∧ m.2.1 2 (m.1 5) ≤ 255 := hm.2 2 (m.1 5) (by omega) (show m.1 5 < (200 : Int) by omega)
      refine g_iald (f := m.2.1 2) rfl (kl_2 _) (by decide) (by omega) (by omega) ?_
      refine g_icmp_eq (by decide) (by decide) (by omega) (by omega) rfl ?_ ?_
      · intro kk7
        refine g_iincE (z := 1) (by decide) (n := 2) (lo' := [(0, vR 1), (1, vE 2)]) rfl rfl rfl ?_
        refine g_goto rfl ?_
        refine g_iload_n (n := 2) rfl rfl ?_
        refine g_aload_n (n := 1) rfl rfl ?_
        refine g_slen (k := 0) (n := 5) (x := 5) rfl rfl rfl rfl (by decide) (by omega) (by omega) (Nat.le_of_ble_eq_true rfl) ?_
        refine g_icmp_ge (by decide) (by decide) (by decide) (by decide) rfl ?_ ?_
        · intro kk8
          exfalso; omega
        · intro kk9
          refine g_aload_n (n := 1) rfl rfl ?_
          refine g_iload_n (n := 2) rfl rfl ?_
          refine g_chr (k := 0) (j := 1) (idx := 117) (ch := 108) (by decide) (by decide) (by decide +kernel) (by omega) (by omega) (by decide +kernel) (show decode cX6_isHere 30 = .ok (.invokevirtual 117, 3) by decide +kernel) (Nat.le_of_ble_eq_true rfl) ?_
          refine g_aload_n (n := 0) rfl rfl ?_
          refine g_getf (v := vR 2) rfl (kl_1 _) rfl ?_
          refine g_aload_n (n := 0) rfl rfl ?_
          refine g_getf (v := vI (m.1 5)) rfl (kl_1 _) rfl ?_
          refine g_iload_n (n := 2) rfl rfl ?_
          refine g_iadd rfl ?_
          have h10 : 0 ≤ m.2.1 2 (m.1 5 + 1) ∧ m.2.1 2 (m.1 5 + 1) ≤ 255 := hm.2 2 (m.1 5 + 1) (by omega) (show (m.1 5 + 1) < (200 : Int) by omega)
          refine g_iald (f := m.2.1 2) rfl (kl_2 _) (by decide) (by omega) (by omega) ?_
          refine g_icmp_eq (by decide) (by decide) (by omega) (by omega) rfl ?_ ?_
          · intro kk11
            refine g_iincE (z := 2) (by decide) (n := 2) (lo' := [(0, vR 1), (1, vE 2)]) rfl rfl rfl ?_
            refine g_goto rfl ?_
            refine g_iload_n (n := 2) rfl rfl ?_
            refine g_aload_n (n := 1) rfl rfl ?_
            refine g_slen (k := 0) (n := 5) (x := 5) rfl rfl rfl rfl (by decide) (by omega) (by omega) (Nat.le_of_ble_eq_true rfl) ?_
            refine g_icmp_ge (by decide) (by decide) (by decide) (by decide) rfl ?_ ?_
            · intro kk12
              exfalso; omega
            · intro kk13
              refine g_aload_n (n := 1) rfl rfl ?_
              refine g_iload_n (n := 2) rfl rfl ?_
              refine g_chr (k := 0) (j := 2) (idx := 117) (ch := 97) (by decide) (by decide) (by decide +kernel) (by omega) (by omega) (by decide +kernel) (show decode cX6_isHere 30 = .ok (.invokevirtual 117, 3) by decide +kernel) (Nat.le_of_ble_eq_true rfl) ?_
              refine g_aload_n (n := 0) rfl rfl ?_
              refine g_getf (v := vR 2) rfl (kl_1 _) rfl ?_
              refine g_aload_n (n := 0) rfl rfl ?_
              refine g_getf (v := vI (m.1 5)) rfl (kl_1 _) rfl ?_
              refine g_iload_n (n := 2) rfl rfl ?_
              refine g_iadd rfl ?_
              have h14 : 0 ≤ m.2.1 2 (m.1 5 + 2) ∧ m.2.1 2 (m.1 5 + 2) ≤ 255 := hm.2 2 (m.1 5 + 2) (by omega) (show (m.1 5 + 2) < (200 : Int) by omega)
              refine g_iald (f := m.2.1 2) rfl (kl_2 _) (by decide) (by omega) (by omega) ?_
              refine g_icmp_eq (by decide) (by decide) (by omega) (by omega) rfl ?_ ?_
              · intro kk15
                refine g_iincE (z := 3) (by decide) (n := 2) (lo' := [(0, vR 1), (1, vE 2)]) rfl rfl rfl ?_
                refine g_goto rfl ?_
                refine g_iload_n (n := 2) rfl rfl ?_
                refine g_aload_n (n := 1) rfl rfl ?_
                refine g_slen (k := 0) (n := 5) (x := 5) rfl rfl rfl rfl (by decide) (by omega) (by omega) (Nat.le_of_ble_eq_true rfl) ?_
                refine g_icmp_ge (by decide) (by decide) (by decide) (by decide) rfl ?_ ?_
                · intro kk16
                  exfalso; omega
                · intro kk17
                  refine g_aload_n (n := 1) rfl rfl ?_
                  refine g_iload_n (n := 2) rfl rfl ?_
                  refine g_chr (k := 0) (j := 3) (idx := 117) (ch := 105) (by decide) (by decide) (by decide +kernel) (by omega) (by omega) (by decide +kernel) (show decode cX6_isHere 30 = .ok (.invokevirtual 117, 3) by decide +kernel) (Nat.le_of_ble_eq_true rfl) ?_
                  refine g_aload_n (n := 0) rfl rfl ?_
                  refine g_getf (v := vR 2) rfl (kl_1 _) rfl ?_
                  refine g_aload_n (n := 0) rfl rfl ?_
                  refine g_getf (v := vI (m.1 5)) rfl (kl_1 _) rfl ?_
                  refine g_iload_n (n := 2) rfl rfl ?_
                  refine g_iadd rfl ?_
                  have h18 : 0 ≤ m.2.1 2 (m.1 5 + 3) ∧ m.2.1 2 (m.1 5 + 3) ≤ 255 := hm.2 2 (m.1 5 + 3) (by omega) (show (m.1 5 + 3) < (200 : Int) by omega)
                  refine g_iald (f := m.2.1 2) rfl (kl_2 _) (by decide) (by omega) (by omega) ?_
                  refine g_icmp_eq (by decide) (by decide) (by omega) (by omega) rfl ?_ ?_
                  · intro kk19
                    refine g_iincE (z := 4) (by decide) (n := 2) (lo' := [(0, vR 1), (1, vE 2)]) rfl rfl rfl ?_
                    refine g_goto rfl ?_
                    refine g_iload_n (n := 2) rfl rfl ?_
                    refine g_aload_n (n := 1) rfl rfl ?_
                    refine g_slen (k := 0) (n := 5) (x := 5) rfl rfl rfl rfl (by decide) (by omega) (by omega) (Nat.le_of_ble_eq_true rfl) ?_
                    refine g_icmp_ge (by decide) (by decide) (by decide) (by decide) rfl ?_ ?_
                    · intro kk20
                      exfalso; omega
                    · intro kk21
                      refine g_aload_n (n := 1) rfl rfl ?_
                      refine g_iload_n (n := 2) rfl rfl ?_
                      refine g_chr (k := 0) (j := 4) (idx := 117) (ch := 110) (by decide) (by decide) (by decide +kernel) (by omega) (by omega) (by decide +kernel) (show decode cX6_isHere 30 = .ok (.invokevirtual 117, 3) by decide +kernel) (Nat.le_of_ble_eq_true rfl) ?_
                      refine g_aload_n (n := 0) rfl rfl ?_
                      refine g_getf (v := vR 2) rfl (kl_1 _) rfl ?_
                      refine g_aload_n (n := 0) rfl rfl ?_
                      refine g_getf (v := vI (m.1 5)) rfl (kl_1 _) rfl ?_
                      refine g_iload_n (n := 2) rfl rfl ?_
                      refine g_iadd rfl ?_
                      have h22 : 0 ≤ m.2.1 2 (m.1 5 + 4) ∧ m.2.1 2 (m.1 5 + 4) ≤ 255 := hm.2 2 (m.1 5 + 4) (by omega) (show (m.1 5 + 4) < (200 : Int) by omega)
                      refine g_iald (f := m.2.1 2) rfl (kl_2 _) (by decide) (by omega) (by omega) ?_
                      refine g_icmp_eq (by decide) (by decide) (by omega) (by omega) rfl ?_ ?_
                      · intro kk23
                        refine g_iincE (z := 5) (by decide) (n := 2) (lo' := [(0, vR 1), (1, vE 2)]) rfl rfl rfl ?_
                        refine g_goto rfl ?_
                        refine g_iload_n (n := 2) rfl rfl ?_
                        refine g_aload_n (n := 1) rfl rfl ?_
                        refine g_slen (k := 0) (n := 5) (x := 5) rfl rfl rfl rfl (by decide) (by omega) (by omega) (Nat.le_of_ble_eq_true rfl) ?_
                        refine g_icmp_ge (by decide) (by decide) (by decide) (by decide) rfl ?_ ?_
                        · intro kk24
                          refine g_iconst rfl ?_
                          refine g_zret rfl rfl (by omega) ?_
                          exact ⟨_, _, rfl, rfl, Or.inl ⟨rfl, by unfold wd0; omega⟩⟩
                        · intro kk25
                          exfalso; omega
                      · intro kk26
                        refine g_iconst rfl ?_
                        refine g_zret rfl rfl (by omega) ?_
                        exact ⟨_, _, rfl, rfl, Or.inr ⟨rfl, by unfold wd0; omega⟩⟩
                  · intro kk27
                    refine g_iconst rfl ?_
                    refine g_zret rfl rfl (by omega) ?_
                    exact ⟨_, _, rfl, rfl, Or.inr ⟨rfl, by unfold wd0; omega⟩⟩
              · intro kk28
                refine g_iconst rfl ?_
                refine g_zret rfl rfl (by omega) ?_
                exact ⟨_, _, rfl, rfl, Or.inr ⟨rfl, by unfold wd0; omega⟩⟩
          · intro kk29
            refine g_iconst rfl ?_
            refine g_zret rfl rfl (by omega) ?_
            exact ⟨_, _, rfl, rfl, Or.inr ⟨rfl, by unfold wd0; omega⟩⟩
      · intro kk30
        refine g_iconst rfl ?_
        refine g_zret rfl rfl (by omega) ?_
        exact ⟨_, _, rfl, rfl, Or.inr ⟨rfl, by unfold wd0; omega⟩⟩
  · intro kk31
    refine g_iconst rfl ?_
    refine g_zret rfl rfl (by omega) ?_
    exact ⟨_, _, rfl, rfl, Or.inr ⟨rfl, by unfold wd0; omega⟩⟩
theorem c_wordOf_1 {V : cg_V} {d q : Nat} (hd : 0 ≤ d) (hq : 0 ≤ q) {m : kM} (hm : kI m) : cg_S V d q mX6_wordOf [vI 1] (kl m) (R_A (fun a m' => m = m' ∧ a = .inr 3)) := by
  refine cg_of (List.mem_of_getElem? (show ae_MT[69]? = some mX6_wordOf from rfl)) (Nat.le_of_ble_eq_true rfl) ?_
  show cg_G V mX6_wordOf d q _ 0 [(0, vI 1)] [] (kl m) 0 0
  refine g_iload_n (n := 0) rfl rfl ?_
  have kk1 : 1 = 1 := by omega
  refine g_tsw_in (tg := 63) (o9 := 62) (by omega) (by omega) rfl (by omega) (by omega) (rfl) (by decide) ?_
  refine g_ldcs rfl rfl rfl ?_
  refine g_aret rfl rfl ?_
  exact ⟨_, _, rfl, rfl, rfl⟩
theorem c_isHere_1 {V : cg_V} {d q : Nat} (hd : 4 ≤ d) (hq : 85 ≤ q) {m : kM} (hm : kI m) : cg_S V d q mX6_isHere [vR 1, vE 3] (kl m) (R_I (fun z m' => (m = m') ∧ ((z = 1 ∧ wd1 (m.2.1 2) (m.1 5) (m.1 6)) ∨ (z = 0 ∧ ¬ wd1 (m.2.1 2) (m.1 5) (m.1 6))))) := by
  refine cg_of (List.mem_of_getElem? (show ae_MT[72]? = some mX6_isHere from rfl)) (Nat.le_of_ble_eq_true rfl) ?_
  show cg_G V mX6_isHere d q _ 0 [(0, vR 1), (1, vE 3)] [] (kl m) 0 0
  have h1 : 0 ≤ m.1 5 ∧ m.1 5 ≤ 200 := hm.1 5
  have h2 : 0 ≤ m.1 6 ∧ m.1 6 ≤ 200 := hm.1 6
  refine g_aload_n (n := 1) rfl rfl ?_
  refine g_slen (k := 1) (n := 6) (x := 6) rfl rfl rfl rfl (by decide) (by omega) (by omega) (Nat.le_of_ble_eq_true rfl) ?_
  refine g_aload_n (n := 0) rfl rfl ?_
  refine g_getf (v := vI (m.1 6)) rfl (kl_1 _) rfl ?_
  refine g_aload_n (n := 0) rfl rfl ?_
  refine g_getf (v := vI (m.1 5)) rfl (kl_1 _) rfl ?_
  refine g_isub rfl ?_
  refine g_icmp_eq (by decide) (by decide) (by omega) (by omega) rfl ?_ ?_
  · intro kk3
    refine g_iconst rfl ?_
    refine g_istore_n (n := 2) (lo' := [(0, vR 1), (1, vE 3)]) rfl rfl ?_
    refine g_iload_n (n := 2) rfl rfl ?_
    refine g_aload_n (n := 1) rfl rfl ?_
    refine g_slen (k := 1) (n := 6) (x := 6) rfl rfl rfl rfl (by decide) (by omega) (by omega) (Nat.le_of_ble_eq_true rfl) ?_
    refine g_icmp_ge (by decide) (by decide) (by decide) (by decide) rfl ?_ ?_
    · intro kk4
      exfalso; omega
    · intro kk5
      refine g_aload_n (n := 1) rfl rfl ?_
      refine g_iload_n (n := 2) rfl rfl ?_
      refine g_chr (k := 1) (j := 0) (idx := 117) (ch := 111) (by decide) (by decide) (by decide +kernel) (by omega) (by omega) (by decide +kernel) (show decode cX6_isHere 30 = .ok (.invokevirtual 117, 3) by decide +kernel) (Nat.le_of_ble_eq_true rfl) ?_
      refine g_aload_n (n := 0) rfl rfl ?_
      refine g_getf (v := vR 2) rfl (kl_1 _) rfl ?_
      refine g_aload_n (n := 0) rfl rfl ?_
      refine g_getf (v := vI (m.1 5)) rfl (kl_1 _) rfl ?_
      refine g_iload_n (n := 2) rfl rfl ?_
      refine g_iaddE (z := m.1 5) (by omega) rfl ?_
      have h6 : 0 ≤ m.2.1 2 (m.1 5) ∧ m.2.1 2 (m.1 5) ≤ 255 := hm.2 2 (m.1 5) (by omega) (show m.1 5 < (200 : Int) by omega)
      refine g_iald (f := m.2.1 2) rfl (kl_2 _) (by decide) (by omega) (by omega) ?_
      refine g_icmp_eq (by decide) (by decide) (by omega) (by omega) rfl ?_ ?_
      · intro kk7
        refine g_iincE (z := 1) (by decide) (n := 2) (lo' := [(0, vR 1), (1, vE 3)]) rfl rfl rfl ?_
        refine g_goto rfl ?_
        refine g_iload_n (n := 2) rfl rfl ?_
        refine g_aload_n (n := 1) rfl rfl ?_
        refine g_slen (k := 1) (n := 6) (x := 6) rfl rfl rfl rfl (by decide) (by omega) (by omega) (Nat.le_of_ble_eq_true rfl) ?_
        refine g_icmp_ge (by decide) (by decide) (by decide) (by decide) rfl ?_ ?_
        · intro kk8
          exfalso; omega
        · intro kk9
          refine g_aload_n (n := 1) rfl rfl ?_
          refine g_iload_n (n := 2) rfl rfl ?_
          refine g_chr (k := 1) (j := 1) (idx := 117) (ch := 110) (by decide) (by decide) (by decide +kernel) (by omega) (by omega) (by decide +kernel) (show decode cX6_isHere 30 = .ok (.invokevirtual 117, 3) by decide +kernel) (Nat.le_of_ble_eq_true rfl) ?_
          refine g_aload_n (n := 0) rfl rfl ?_
          refine g_getf (v := vR 2) rfl (kl_1 _) rfl ?_
          refine g_aload_n (n := 0) rfl rfl ?_
          refine g_getf (v := vI (m.1 5)) rfl (kl_1 _) rfl ?_
          refine g_iload_n (n := 2) rfl rfl ?_
          refine g_iadd rfl ?_
          have h10 : 0 ≤ m.2.1 2 (m.1 5 + 1) ∧ m.2.1 2 (m.1 5 + 1) ≤ 255 := hm.2 2 (m.1 5 + 1) (by omega) (show (m.1 5 + 1) < (200 : Int) by omega)
          refine g_iald (f := m.2.1 2) rfl (kl_2 _) (by decide) (by omega) (by omega) ?_
          refine g_icmp_eq (by decide) (by decide) (by omega) (by omega) rfl ?_ ?_
          · intro kk11
            refine g_iincE (z := 2) (by decide) (n := 2) (lo' := [(0, vR 1), (1, vE 3)]) rfl rfl rfl ?_
            refine g_goto rfl ?_
            refine g_iload_n (n := 2) rfl rfl ?_
            refine g_aload_n (n := 1) rfl rfl ?_
            refine g_slen (k := 1) (n := 6) (x := 6) rfl rfl rfl rfl (by decide) (by omega) (by omega) (Nat.le_of_ble_eq_true rfl) ?_
            refine g_icmp_ge (by decide) (by decide) (by decide) (by decide) rfl ?_ ?_
            · intro kk12
              exfalso; omega
            · intro kk13
              refine g_aload_n (n := 1) rfl rfl ?_
              refine g_iload_n (n := 2) rfl rfl ?_
              refine g_chr (k := 1) (j := 2) (idx := 117) (ch := 101) (by decide) (by decide) (by decide +kernel) (by omega) (by omega) (by decide +kernel) (show decode cX6_isHere 30 = .ok (.invokevirtual 117, 3) by decide +kernel) (Nat.le_of_ble_eq_true rfl) ?_
              refine g_aload_n (n := 0) rfl rfl ?_
              refine g_getf (v := vR 2) rfl (kl_1 _) rfl ?_
              refine g_aload_n (n := 0) rfl rfl ?_
              refine g_getf (v := vI (m.1 5)) rfl (kl_1 _) rfl ?_
              refine g_iload_n (n := 2) rfl rfl ?_
              refine g_iadd rfl ?_
              have h14 : 0 ≤ m.2.1 2 (m.1 5 + 2) ∧ m.2.1 2 (m.1 5 + 2) ≤ 255 := hm.2 2 (m.1 5 + 2) (by omega) (show (m.1 5 + 2) < (200 : Int) by omega)
              refine g_iald (f := m.2.1 2) rfl (kl_2 _) (by decide) (by omega) (by omega) ?_
              refine g_icmp_eq (by decide) (by decide) (by omega) (by omega) rfl ?_ ?_
              · intro kk15
                refine g_iincE (z := 3) (by decide) (n := 2) (lo' := [(0, vR 1), (1, vE 3)]) rfl rfl rfl ?_
                refine g_goto rfl ?_
                refine g_iload_n (n := 2) rfl rfl ?_
                refine g_aload_n (n := 1) rfl rfl ?_
                refine g_slen (k := 1) (n := 6) (x := 6) rfl rfl rfl rfl (by decide) (by omega) (by omega) (Nat.le_of_ble_eq_true rfl) ?_
                refine g_icmp_ge (by decide) (by decide) (by decide) (by decide) rfl ?_ ?_
                · intro kk16
                  exfalso; omega
                · intro kk17
                  refine g_aload_n (n := 1) rfl rfl ?_
                  refine g_iload_n (n := 2) rfl rfl ?_
                  refine g_chr (k := 1) (j := 3) (idx := 117) (ch := 119) (by decide) (by decide) (by decide +kernel) (by omega) (by omega) (by decide +kernel) (show decode cX6_isHere 30 = .ok (.invokevirtual 117, 3) by decide +kernel) (Nat.le_of_ble_eq_true rfl) ?_
                  refine g_aload_n (n := 0) rfl rfl ?_
                  refine g_getf (v := vR 2) rfl (kl_1 _) rfl ?_
                  refine g_aload_n (n := 0) rfl rfl ?_
                  refine g_getf (v := vI (m.1 5)) rfl (kl_1 _) rfl ?_
                  refine g_iload_n (n := 2) rfl rfl ?_
                  refine g_iadd rfl ?_
                  have h18 : 0 ≤ m.2.1 2 (m.1 5 + 3) ∧ m.2.1 2 (m.1 5 + 3) ≤ 255 := hm.2 2 (m.1 5 + 3) (by omega) (show (m.1 5 + 3) < (200 : Int) by omega)
                  refine g_iald (f := m.2.1 2) rfl (kl_2 _) (by decide) (by omega) (by omega) ?_
                  refine g_icmp_eq (by decide) (by decide) (by omega) (by omega) rfl ?_ ?_
                  · intro kk19
                    refine g_iincE (z := 4) (by decide) (n := 2) (lo' := [(0, vR 1), (1, vE 3)]) rfl rfl rfl ?_
                    refine g_goto rfl ?_
                    refine g_iload_n (n := 2) rfl rfl ?_
                    refine g_aload_n (n := 1) rfl rfl ?_
                    refine g_slen (k := 1) (n := 6) (x := 6) rfl rfl rfl rfl (by decide) (by omega) (by omega) (Nat.le_of_ble_eq_true rfl) ?_
                    refine g_icmp_ge (by decide) (by decide) (by decide) (by decide) rfl ?_ ?_
                    · intro kk20
                      exfalso; omega
                    · intro kk21
                      refine g_aload_n (n := 1) rfl rfl ?_
                      refine g_iload_n (n := 2) rfl rfl ?_
                      refine g_chr (k := 1) (j := 4) (idx := 117) (ch := 97) (by decide) (by decide) (by decide +kernel) (by omega) (by omega) (by decide +kernel) (show decode cX6_isHere 30 = .ok (.invokevirtual 117, 3) by decide +kernel) (Nat.le_of_ble_eq_true rfl) ?_
                      refine g_aload_n (n := 0) rfl rfl ?_
                      refine g_getf (v := vR 2) rfl (kl_1 _) rfl ?_
                      refine g_aload_n (n := 0) rfl rfl ?_
                      refine g_getf (v := vI (m.1 5)) rfl (kl_1 _) rfl ?_
                      refine g_iload_n (n := 2) rfl rfl ?_
                      refine g_iadd rfl ?_
                      have h22 : 0 ≤ m.2.1 2 (m.1 5 + 4) ∧ m.2.1 2 (m.1 5 + 4) ≤ 255 := hm.2 2 (m.1 5 + 4) (by omega) (show (m.1 5 + 4) < (200 : Int) by omega)
                      refine g_iald (f := m.2.1 2) rfl (kl_2 _) (by decide) (by omega) (by omega) ?_
                      refine g_icmp_eq (by decide) (by decide) (by omega) (by omega) rfl ?_ ?_
                      · intro kk23
                        refine g_iincE (z := 5) (by decide) (n := 2) (lo' := [(0, vR 1), (1, vE 3)]) rfl rfl rfl ?_
                        refine g_goto rfl ?_
                        refine g_iload_n (n := 2) rfl rfl ?_
                        refine g_aload_n (n := 1) rfl rfl ?_
                        refine g_slen (k := 1) (n := 6) (x := 6) rfl rfl rfl rfl (by decide) (by omega) (by omega) (Nat.le_of_ble_eq_true rfl) ?_
                        refine g_icmp_ge (by decide) (by decide) (by decide) (by decide) rfl ?_ ?_
                        · intro kk24
                          exfalso; omega
                        · intro kk25
                          refine g_aload_n (n := 1) rfl rfl ?_
                          refine g_iload_n (n := 2) rfl rfl ?_
                          refine g_chr (k := 1) (j := 5) (idx := 117) (ch := 121) (by decide) (by decide) (by decide +kernel) (by omega) (by omega) (by decide +kernel) (show decode cX6_isHere 30 = .ok (.invokevirtual 117, 3) by decide +kernel) (Nat.le_of_ble_eq_true rfl) ?_
                          refine g_aload_n (n := 0) rfl rfl ?_
                          refine g_getf (v := vR 2) rfl (kl_1 _) rfl ?_
                          refine g_aload_n (n := 0) rfl rfl ?_
                          refine g_getf (v := vI (m.1 5)) rfl (kl_1 _) rfl ?_
                          refine g_iload_n (n := 2) rfl rfl ?_
                          refine g_iadd rfl ?_
                          have h26 : 0 ≤ m.2.1 2 (m.1 5 + 5) ∧ m.2.1 2 (m.1 5 + 5) ≤ 255 := hm.2 2 (m.1 5 + 5) (by omega) (show (m.1 5 + 5) < (200 : Int) by omega)
                          refine g_iald (f := m.2.1 2) rfl (kl_2 _) (by decide) (by omega) (by omega) ?_
                          refine g_icmp_eq (by decide) (by decide) (by omega) (by omega) rfl ?_ ?_
                          · intro kk27
                            refine g_iincE (z := 6) (by decide) (n := 2) (lo' := [(0, vR 1), (1, vE 3)]) rfl rfl rfl ?_
                            refine g_goto rfl ?_
                            refine g_iload_n (n := 2) rfl rfl ?_
                            refine g_aload_n (n := 1) rfl rfl ?_
                            refine g_slen (k := 1) (n := 6) (x := 6) rfl rfl rfl rfl (by decide) (by omega) (by omega) (Nat.le_of_ble_eq_true rfl) ?_
                            refine g_icmp_ge (by decide) (by decide) (by decide) (by decide) rfl ?_ ?_
                            · intro kk28
                              refine g_iconst rfl ?_
                              refine g_zret rfl rfl (by omega) ?_
                              exact ⟨_, _, rfl, rfl, Or.inl ⟨rfl, by unfold wd1; omega⟩⟩
                            · intro kk29
                              exfalso; omega
                          · intro kk30
                            refine g_iconst rfl ?_
                            refine g_zret rfl rfl (by omega) ?_
                            exact ⟨_, _, rfl, rfl, Or.inr ⟨rfl, by unfold wd1; omega⟩⟩
                      · intro kk31
                        refine g_iconst rfl ?_
                        refine g_zret rfl rfl (by omega) ?_
                        exact ⟨_, _, rfl, rfl, Or.inr ⟨rfl, by unfold wd1; omega⟩⟩
                  · intro kk32
                    refine g_iconst rfl ?_
                    refine g_zret rfl rfl (by omega) ?_
                    exact ⟨_, _, rfl, rfl, Or.inr ⟨rfl, by unfold wd1; omega⟩⟩
              · intro kk33
                refine g_iconst rfl ?_
                refine g_zret rfl rfl (by omega) ?_
                exact ⟨_, _, rfl, rfl, Or.inr ⟨rfl, by unfold wd1; omega⟩⟩
          · intro kk34
            refine g_iconst rfl ?_
            refine g_zret rfl rfl (by omega) ?_
            exact ⟨_, _, rfl, rfl, Or.inr ⟨rfl, by unfold wd1; omega⟩⟩
      · intro kk35
        refine g_iconst rfl ?_
        refine g_zret rfl rfl (by omega) ?_
        exact ⟨_, _, rfl, rfl, Or.inr ⟨rfl, by unfold wd1; omega⟩⟩
  · intro kk36
    refine g_iconst rfl ?_
    refine g_zret rfl rfl (by omega) ?_
    exact ⟨_, _, rfl, rfl, Or.inr ⟨rfl, by unfold wd1; omega⟩⟩
theorem c_wordOf_2 {V : cg_V} {d q : Nat} (hd : 0 ≤ d) (hq : 0 ≤ q) {m : kM} (hm : kI m) : cg_S V d q mX6_wordOf [vI 2] (kl m) (R_A (fun a m' => m = m' ∧ a = .inr 4)) := by
  refine cg_of (List.mem_of_getElem? (show ae_MT[69]? = some mX6_wordOf from rfl)) (Nat.le_of_ble_eq_true rfl) ?_
  show cg_G V mX6_wordOf d q _ 0 [(0, vI 2)] [] (kl m) 0 0
  refine g_iload_n (n := 0) rfl rfl ?_
  have kk1 : 2 = 2 := by omega
  refine g_tsw_in (tg := 66) (o9 := 65) (by omega) (by omega) rfl (by omega) (by omega) (rfl) (by decide) ?_
  refine g_ldcs rfl rfl rfl ?_
  refine g_aret rfl rfl ?_
  exact ⟨_, _, rfl, rfl, rfl⟩
theorem c_isHere_2 {V : cg_V} {d q : Nat} (hd : 4 ≤ d) (hq : 85 ≤ q) {m : kM} (hm : kI m) : cg_S V d q mX6_isHere [vR 1, vE 4] (kl m) (R_I (fun z m' => (m = m') ∧ ((z = 1 ∧ wd2 (m.2.1 2) (m.1 5) (m.1 6)) ∨ (z = 0 ∧ ¬ wd2 (m.2.1 2) (m.1 5) (m.1 6))))) := by
  refine cg_of (List.mem_of_getElem? (show ae_MT[72]? = some mX6_isHere from rfl)) (Nat.le_of_ble_eq_true rfl) ?_
  show cg_G V mX6_isHere d q _ 0 [(0, vR 1), (1, vE 4)] [] (kl m) 0 0
  have h1 : 0 ≤ m.1 5 ∧ m.1 5 ≤ 200 := hm.1 5
  have h2 : 0 ≤ m.1 6 ∧ m.1 6 ≤ 200 := hm.1 6
  refine g_aload_n (n := 1) rfl rfl ?_
  refine g_slen (k := 2) (n := 3) (x := 3) rfl rfl rfl rfl (by decide) (by omega) (by omega) (Nat.le_of_ble_eq_true rfl) ?_
  refine g_aload_n (n := 0) rfl rfl ?_
  refine g_getf (v := vI (m.1 6)) rfl (kl_1 _) rfl ?_
  refine g_aload_n (n := 0) rfl rfl ?_
  refine g_getf (v := vI (m.1 5)) rfl (kl_1 _) rfl ?_
  refine g_isub rfl ?_
  refine g_icmp_eq (by decide) (by decide) (by omega) (by omega) rfl ?_ ?_
  · intro kk3
    refine g_iconst rfl ?_
    refine g_istore_n (n := 2) (lo' := [(0, vR 1), (1, vE 4)]) rfl rfl ?_
    refine g_iload_n (n := 2) rfl rfl ?_
    refine g_aload_n (n := 1) rfl rfl ?_
    refine g_slen (k := 2) (n := 3) (x := 3) rfl rfl rfl rfl (by decide) (by omega) (by omega) (Nat.le_of_ble_eq_true rfl) ?_
    refine g_icmp_ge (by decide) (by decide) (by decide) (by decide) rfl ?_ ?_
    · intro kk4
      exfalso; omega
    · intro kk5
      refine g_aload_n (n := 1) rfl rfl ?_
      refine g_iload_n (n := 2) rfl rfl ?_
      refine g_chr (k := 2) (j := 0) (idx := 117) (ch := 116) (by decide) (by decide) (by decide +kernel) (by omega) (by omega) (by decide +kernel) (show decode cX6_isHere 30 = .ok (.invokevirtual 117, 3) by decide +kernel) (Nat.le_of_ble_eq_true rfl) ?_
      refine g_aload_n (n := 0) rfl rfl ?_
      refine g_getf (v := vR 2) rfl (kl_1 _) rfl ?_
      refine g_aload_n (n := 0) rfl rfl ?_
      refine g_getf (v := vI (m.1 5)) rfl (kl_1 _) rfl ?_
      refine g_iload_n (n := 2) rfl rfl ?_
      refine g_iaddE (z := m.1 5) (by omega) rfl ?_
      have h6 : 0 ≤ m.2.1 2 (m.1 5) ∧ m.2.1 2 (m.1 5) ≤ 255 := hm.2 2 (m.1 5) (by omega) (show m.1 5 < (200 : Int) by omega)
      refine g_iald (f := m.2.1 2) rfl (kl_2 _) (by decide) (by omega) (by omega) ?_
      refine g_icmp_eq (by decide) (by decide) (by omega) (by omega) rfl ?_ ?_
      · intro kk7
        refine g_iincE (z := 1) (by decide) (n := 2) (lo' := [(0, vR 1), (1, vE 4)]) rfl rfl rfl ?_
        refine g_goto rfl ?_
        refine g_iload_n (n := 2) rfl rfl ?_
        refine g_aload_n (n := 1) rfl rfl ?_
        refine g_slen (k := 2) (n := 3) (x := 3) rfl rfl rfl rfl (by decide) (by omega) (by omega) (Nat.le_of_ble_eq_true rfl) ?_
        refine g_icmp_ge (by decide) (by decide) (by decide) (by decide) rfl ?_ ?_
        · intro kk8
          exfalso; omega
        · intro kk9
          refine g_aload_n (n := 1) rfl rfl ?_
          refine g_iload_n (n := 2) rfl rfl ?_
          refine g_chr (k := 2) (j := 1) (idx := 117) (ch := 119) (by decide) (by decide) (by decide +kernel) (by omega) (by omega) (by decide +kernel) (show decode cX6_isHere 30 = .ok (.invokevirtual 117, 3) by decide +kernel) (Nat.le_of_ble_eq_true rfl) ?_
          refine g_aload_n (n := 0) rfl rfl ?_
          refine g_getf (v := vR 2) rfl (kl_1 _) rfl ?_
          refine g_aload_n (n := 0) rfl rfl ?_
          refine g_getf (v := vI (m.1 5)) rfl (kl_1 _) rfl ?_
          refine g_iload_n (n := 2) rfl rfl ?_
          refine g_iadd rfl ?_
          have h10 : 0 ≤ m.2.1 2 (m.1 5 + 1) ∧ m.2.1 2 (m.1 5 + 1) ≤ 255 := hm.2 2 (m.1 5 + 1) (by omega) (show (m.1 5 + 1) < (200 : Int) by omega)
          refine g_iald (f := m.2.1 2) rfl (kl_2 _) (by decide) (by omega) (by omega) ?_
          refine g_icmp_eq (by decide) (by decide) (by omega) (by omega) rfl ?_ ?_
          · intro kk11
            refine g_iincE (z := 2) (by decide) (n := 2) (lo' := [(0, vR 1), (1, vE 4)]) rfl rfl rfl ?_
            refine g_goto rfl ?_
            refine g_iload_n (n := 2) rfl rfl ?_
            refine g_aload_n (n := 1) rfl rfl ?_
            refine g_slen (k := 2) (n := 3) (x := 3) rfl rfl rfl rfl (by decide) (by omega) (by omega) (Nat.le_of_ble_eq_true rfl) ?_
            refine g_icmp_ge (by decide) (by decide) (by decide) (by decide) rfl ?_ ?_
            · intro kk12
              exfalso; omega
            · intro kk13
              refine g_aload_n (n := 1) rfl rfl ?_
              refine g_iload_n (n := 2) rfl rfl ?_
              refine g_chr (k := 2) (j := 2) (idx := 117) (ch := 111) (by decide) (by decide) (by decide +kernel) (by omega) (by omega) (by decide +kernel) (show decode cX6_isHere 30 = .ok (.invokevirtual 117, 3) by decide +kernel) (Nat.le_of_ble_eq_true rfl) ?_
              refine g_aload_n (n := 0) rfl rfl ?_
              refine g_getf (v := vR 2) rfl (kl_1 _) rfl ?_
              refine g_aload_n (n := 0) rfl rfl ?_
              refine g_getf (v := vI (m.1 5)) rfl (kl_1 _) rfl ?_
              refine g_iload_n (n := 2) rfl rfl ?_
              refine g_iadd rfl ?_
              have h14 : 0 ≤ m.2.1 2 (m.1 5 + 2) ∧ m.2.1 2 (m.1 5 + 2) ≤ 255 := hm.2 2 (m.1 5 + 2) (by omega) (show (m.1 5 + 2) < (200 : Int) by omega)
              refine g_iald (f := m.2.1 2) rfl (kl_2 _) (by decide) (by omega) (by omega) ?_
              refine g_icmp_eq (by decide) (by decide) (by omega) (by omega) rfl ?_ ?_
              · intro kk15
                refine g_iincE (z := 3) (by decide) (n := 2) (lo' := [(0, vR 1), (1, vE 4)]) rfl rfl rfl ?_
                refine g_goto rfl ?_
                refine g_iload_n (n := 2) rfl rfl ?_
                refine g_aload_n (n := 1) rfl rfl ?_
                refine g_slen (k := 2) (n := 3) (x := 3) rfl rfl rfl rfl (by decide) (by omega) (by omega) (Nat.le_of_ble_eq_true rfl) ?_
                refine g_icmp_ge (by decide) (by decide) (by decide) (by decide) rfl ?_ ?_
                · intro kk16
                  refine g_iconst rfl ?_
                  refine g_zret rfl rfl (by omega) ?_
                  exact ⟨_, _, rfl, rfl, Or.inl ⟨rfl, by unfold wd2; omega⟩⟩
                · intro kk17
                  exfalso; omega
              · intro kk18
                refine g_iconst rfl ?_
                refine g_zret rfl rfl (by omega) ?_
                exact ⟨_, _, rfl, rfl, Or.inr ⟨rfl, by unfold wd2; omega⟩⟩
          · intro kk19
            refine g_iconst rfl ?_
            refine g_zret rfl rfl (by omega) ?_
            exact ⟨_, _, rfl, rfl, Or.inr ⟨rfl, by unfold wd2; omega⟩⟩
      · intro kk20
        refine g_iconst rfl ?_
        refine g_zret rfl rfl (by omega) ?_
        exact ⟨_, _, rfl, rfl, Or.inr ⟨rfl, by unfold wd2; omega⟩⟩
  · intro kk21
    refine g_iconst rfl ?_
    refine g_zret rfl rfl (by omega) ?_
    exact ⟨_, _, rfl, rfl, Or.inr ⟨rfl, by unfold wd2; omega⟩⟩
theorem c_wordOf_3 {V : cg_V} {d q : Nat} (hd : 0 ≤ d) (hq : 0 ≤ q) {m : kM} (hm : kI m) : cg_S V d q mX6_wordOf [vI 3] (kl m) (R_A (fun a m' => m = m' ∧ a = .inr 5)) := by
  refine cg_of (List.mem_of_getElem? (show ae_MT[69]? = some mX6_wordOf from rfl)) (Nat.le_of_ble_eq_true rfl) ?_
  show cg_G V mX6_wordOf d q _ 0 [(0, vI 3)] [] (kl m) 0 0
  refine g_iload_n (n := 0) rfl rfl ?_
  have kk1 : 3 = 3 := by omega
  refine g_tsw_in (tg := 69) (o9 := 68) (by omega) (by omega) rfl (by omega) (by omega) (rfl) (by decide) ?_
  refine g_ldcs rfl rfl rfl ?_
  refine g_aret rfl rfl ?_
  exact ⟨_, _, rfl, rfl, rfl⟩
theorem c_isHere_3 {V : cg_V} {d q : Nat} (hd : 4 ≤ d) (hq : 85 ≤ q) {m : kM} (hm : kI m) : cg_S V d q mX6_isHere [vR 1, vE 5] (kl m) (R_I (fun z m' => (m = m') ∧ ((z = 1 ∧ wd3 (m.2.1 2) (m.1 5) (m.1 6)) ∨ (z = 0 ∧ ¬ wd3 (m.2.1 2) (m.1 5) (m.1 6))))) := by
  refine cg_of (List.mem_of_getElem? (show ae_MT[72]? = some mX6_isHere from rfl)) (Nat.le_of_ble_eq_true rfl) ?_
  show cg_G V mX6_isHere d q _ 0 [(0, vR 1), (1, vE 5)] [] (kl m) 0 0
  have h1 : 0 ≤ m.1 5 ∧ m.1 5 ≤ 200 := hm.1 5
  have h2 : 0 ≤ m.1 6 ∧ m.1 6 ≤ 200 := hm.1 6
  refine g_aload_n (n := 1) rfl rfl ?_
  refine g_slen (k := 3) (n := 7) (x := 7) rfl rfl rfl rfl (by decide) (by omega) (by omega) (Nat.le_of_ble_eq_true rfl) ?_
  refine g_aload_n (n := 0) rfl rfl ?_
  refine g_getf (v := vI (m.1 6)) rfl (kl_1 _) rfl ?_
  refine g_aload_n (n := 0) rfl rfl ?_
  refine g_getf (v := vI (m.1 5)) rfl (kl_1 _) rfl ?_
  refine g_isub rfl ?_
  refine g_icmp_eq (by decide) (by decide) (by omega) (by omega) rfl ?_ ?_
  · intro kk3
    refine g_iconst rfl ?_
    refine g_istore_n (n := 2) (lo' := [(0, vR 1), (1, vE 5)]) rfl rfl ?_
    refine g_iload_n (n := 2) rfl rfl ?_
    refine g_aload_n (n := 1) rfl rfl ?_
    refine g_slen (k := 3) (n := 7) (x := 7) rfl rfl rfl rfl (by decide) (by omega) (by omega) (Nat.le_of_ble_eq_true rfl) ?_
    refine g_icmp_ge (by decide) (by decide) (by decide) (by decide) rfl ?_ ?_
    · intro kk4
      exfalso; omega
    · intro kk5
      refine g_aload_n (n := 1) rfl rfl ?_
      refine g_iload_n (n := 2) rfl rfl ?_
      refine g_chr (k := 3) (j := 0) (idx := 117) (ch := 119) (by decide) (by decide) (by decide +kernel) (by omega) (by omega) (by decide +kernel) (show decode cX6_isHere 30 = .ok (.invokevirtual 117, 3) by decide +kernel) (Nat.le_of_ble_eq_true rfl) ?_
      refine g_aload_n (n := 0) rfl rfl ?_
      refine g_getf (v := vR 2) rfl (kl_1 _) rfl ?_
      refine g_aload_n (n := 0) rfl rfl ?_
      refine g_getf (v := vI (m.1 5)) rfl (kl_1 _) rfl ?_
      refine g_iload_n (n := 2) rfl rfl ?_
      refine g_iaddE (z := m.1 5) (by omega) rfl ?_
      have h6 : 0 ≤ m.2.1 2 (m.1 5) ∧ m.2.1 2 (m.1 5) ≤ 255 := hm.2 2 (m.1 5) (by omega) (show m.1 5 < (200 : Int) by omega)
      refine g_iald (f := m.2.1 2) rfl (kl_2 _) (by decide) (by omega) (by omega) ?_
      refine g_icmp_eq (by decide) (by decide) (by omega) (by omega) rfl ?_ ?_
      · intro kk7
        refine g_iincE (z := 1) (by decide) (n := 2) (lo' := [(0, vR 1), (1, vE 5)]) rfl rfl rfl ?_
        refine g_goto rfl ?_
        refine g_iload_n (n := 2) rfl rfl ?_
        refine g_aload_n (n := 1) rfl rfl ?_
        refine g_slen (k := 3) (n := 7) (x := 7) rfl rfl rfl rfl (by decide) (by omega) (by omega) (Nat.le_of_ble_eq_true rfl) ?_
        refine g_icmp_ge (by decide) (by decide) (by decide) (by decide) rfl ?_ ?_
        · intro kk8
          exfalso; omega
        · intro kk9
          refine g_aload_n (n := 1) rfl rfl ?_
          refine g_iload_n (n := 2) rfl rfl ?_
          refine g_chr (k := 3) (j := 1) (idx := 117) (ch := 101) (by decide) (by decide) (by decide +kernel) (by omega) (by omega) (by decide +kernel) (show decode cX6_isHere 30 = .ok (.invokevirtual 117, 3) by decide +kernel) (Nat.le_of_ble_eq_true rfl) ?_
          refine g_aload_n (n := 0) rfl rfl ?_
          refine g_getf (v := vR 2) rfl (kl_1 _) rfl ?_
          refine g_aload_n (n := 0) rfl rfl ?_
          refine g_getf (v := vI (m.1 5)) rfl (kl_1 _) rfl ?_
          refine g_iload_n (n := 2) rfl rfl ?_
          refine g_iadd rfl ?_
          have h10 : 0 ≤ m.2.1 2 (m.1 5 + 1) ∧ m.2.1 2 (m.1 5 + 1) ≤ 255 := hm.2 2 (m.1 5 + 1) (by omega) (show (m.1 5 + 1) < (200 : Int) by omega)
          refine g_iald (f := m.2.1 2) rfl (kl_2 _) (by decide) (by omega) (by omega) ?_
          refine g_icmp_eq (by decide) (by decide) (by omega) (by omega) rfl ?_ ?_
          · intro kk11
            refine g_iincE (z := 2) (by decide) (n := 2) (lo' := [(0, vR 1), (1, vE 5)]) rfl rfl rfl ?_
            refine g_goto rfl ?_
            refine g_iload_n (n := 2) rfl rfl ?_
            refine g_aload_n (n := 1) rfl rfl ?_
            refine g_slen (k := 3) (n := 7) (x := 7) rfl rfl rfl rfl (by decide) (by omega) (by omega) (Nat.le_of_ble_eq_true rfl) ?_
            refine g_icmp_ge (by decide) (by decide) (by decide) (by decide) rfl ?_ ?_
            · intro kk12
              exfalso; omega
            · intro kk13
              refine g_aload_n (n := 1) rfl rfl ?_
              refine g_iload_n (n := 2) rfl rfl ?_
              refine g_chr (k := 3) (j := 2) (idx := 117) (ch := 105) (by decide) (by decide) (by decide +kernel) (by omega) (by omega) (by decide +kernel) (show decode cX6_isHere 30 = .ok (.invokevirtual 117, 3) by decide +kernel) (Nat.le_of_ble_eq_true rfl) ?_
              refine g_aload_n (n := 0) rfl rfl ?_
              refine g_getf (v := vR 2) rfl (kl_1 _) rfl ?_
              refine g_aload_n (n := 0) rfl rfl ?_
              refine g_getf (v := vI (m.1 5)) rfl (kl_1 _) rfl ?_
              refine g_iload_n (n := 2) rfl rfl ?_
              refine g_iadd rfl ?_
              have h14 : 0 ≤ m.2.1 2 (m.1 5 + 2) ∧ m.2.1 2 (m.1 5 + 2) ≤ 255 := hm.2 2 (m.1 5 + 2) (by omega) (show (m.1 5 + 2) < (200 : Int) by omega)
              refine g_iald (f := m.2.1 2) rfl (kl_2 _) (by decide) (by omega) (by omega) ?_
              refine g_icmp_eq (by decide) (by decide) (by omega) (by omega) rfl ?_ ?_
              · intro kk15
                refine g_iincE (z := 3) (by decide) (n := 2) (lo' := [(0, vR 1), (1, vE 5)]) rfl rfl rfl ?_
                refine g_goto rfl ?_
                refine g_iload_n (n := 2) rfl rfl ?_
                refine g_aload_n (n := 1) rfl rfl ?_
                refine g_slen (k := 3) (n := 7) (x := 7) rfl rfl rfl rfl (by decide) (by omega) (by omega) (Nat.le_of_ble_eq_true rfl) ?_
                refine g_icmp_ge (by decide) (by decide) (by decide) (by decide) rfl ?_ ?_
                · intro kk16
                  exfalso; omega
                · intro kk17
                  refine g_aload_n (n := 1) rfl rfl ?_
                  refine g_iload_n (n := 2) rfl rfl ?_
                  refine g_chr (k := 3) (j := 3) (idx := 117) (ch := 103) (by decide) (by decide) (by decide +kernel) (by omega) (by omega) (by decide +kernel) (show decode cX6_isHere 30 = .ok (.invokevirtual 117, 3) by decide +kernel) (Nat.le_of_ble_eq_true rfl) ?_
                  refine g_aload_n (n := 0) rfl rfl ?_
                  refine g_getf (v := vR 2) rfl (kl_1 _) rfl ?_
                  refine g_aload_n (n := 0) rfl rfl ?_
                  refine g_getf (v := vI (m.1 5)) rfl (kl_1 _) rfl ?_
                  refine g_iload_n (n := 2) rfl rfl ?_
                  refine g_iadd rfl ?_
                  have h18 : 0 ≤ m.2.1 2 (m.1 5 + 3) ∧ m.2.1 2 (m.1 5 + 3) ≤ 255 := hm.2 2 (m.1 5 + 3) (by omega) (show (m.1 5 + 3) < (200 : Int) by omega)
                  refine g_iald (f := m.2.1 2) rfl (kl_2 _) (by decide) (by omega) (by omega) ?_
                  refine g_icmp_eq (by decide) (by decide) (by omega) (by omega) rfl ?_ ?_
                  · intro kk19
                    refine g_iincE (z := 4) (by decide) (n := 2) (lo' := [(0, vR 1), (1, vE 5)]) rfl rfl rfl ?_
                    refine g_goto rfl ?_
                    refine g_iload_n (n := 2) rfl rfl ?_
                    refine g_aload_n (n := 1) rfl rfl ?_
                    refine g_slen (k := 3) (n := 7) (x := 7) rfl rfl rfl rfl (by decide) (by omega) (by omega) (Nat.le_of_ble_eq_true rfl) ?_
                    refine g_icmp_ge (by decide) (by decide) (by decide) (by decide) rfl ?_ ?_
                    · intro kk20
                      exfalso; omega
                    · intro kk21
                      refine g_aload_n (n := 1) rfl rfl ?_
                      refine g_iload_n (n := 2) rfl rfl ?_
                      refine g_chr (k := 3) (j := 4) (idx := 117) (ch := 104) (by decide) (by decide) (by decide +kernel) (by omega) (by omega) (by decide +kernel) (show decode cX6_isHere 30 = .ok (.invokevirtual 117, 3) by decide +kernel) (Nat.le_of_ble_eq_true rfl) ?_
                      refine g_aload_n (n := 0) rfl rfl ?_
                      refine g_getf (v := vR 2) rfl (kl_1 _) rfl ?_
                      refine g_aload_n (n := 0) rfl rfl ?_
                      refine g_getf (v := vI (m.1 5)) rfl (kl_1 _) rfl ?_
                      refine g_iload_n (n := 2) rfl rfl ?_
                      refine g_iadd rfl ?_
                      have h22 : 0 ≤ m.2.1 2 (m.1 5 + 4) ∧ m.2.1 2 (m.1 5 + 4) ≤ 255 := hm.2 2 (m.1 5 + 4) (by omega) (show (m.1 5 + 4) < (200 : Int) by omega)
                      refine g_iald (f := m.2.1 2) rfl (kl_2 _) (by decide) (by omega) (by omega) ?_
                      refine g_icmp_eq (by decide) (by decide) (by omega) (by omega) rfl ?_ ?_
                      · intro kk23
                        refine g_iincE (z := 5) (by decide) (n := 2) (lo' := [(0, vR 1), (1, vE 5)]) rfl rfl rfl ?_
                        refine g_goto rfl ?_
                        refine g_iload_n (n := 2) rfl rfl ?_
                        refine g_aload_n (n := 1) rfl rfl ?_
                        refine g_slen (k := 3) (n := 7) (x := 7) rfl rfl rfl rfl (by decide) (by omega) (by omega) (Nat.le_of_ble_eq_true rfl) ?_
                        refine g_icmp_ge (by decide) (by decide) (by decide) (by decide) rfl ?_ ?_
                        · intro kk24
                          exfalso; omega
                        · intro kk25
                          refine g_aload_n (n := 1) rfl rfl ?_
                          refine g_iload_n (n := 2) rfl rfl ?_
                          refine g_chr (k := 3) (j := 5) (idx := 117) (ch := 101) (by decide) (by decide) (by decide +kernel) (by omega) (by omega) (by decide +kernel) (show decode cX6_isHere 30 = .ok (.invokevirtual 117, 3) by decide +kernel) (Nat.le_of_ble_eq_true rfl) ?_
                          refine g_aload_n (n := 0) rfl rfl ?_
                          refine g_getf (v := vR 2) rfl (kl_1 _) rfl ?_
                          refine g_aload_n (n := 0) rfl rfl ?_
                          refine g_getf (v := vI (m.1 5)) rfl (kl_1 _) rfl ?_
                          refine g_iload_n (n := 2) rfl rfl ?_
                          refine g_iadd rfl ?_
                          have h26 : 0 ≤ m.2.1 2 (m.1 5 + 5) ∧ m.2.1 2 (m.1 5 + 5) ≤ 255 := hm.2 2 (m.1 5 + 5) (by omega) (show (m.1 5 + 5) < (200 : Int) by omega)
                          refine g_iald (f := m.2.1 2) rfl (kl_2 _) (by decide) (by omega) (by omega) ?_
                          refine g_icmp_eq (by decide) (by decide) (by omega) (by omega) rfl ?_ ?_
                          · intro kk27
                            refine g_iincE (z := 6) (by decide) (n := 2) (lo' := [(0, vR 1), (1, vE 5)]) rfl rfl rfl ?_
                            refine g_goto rfl ?_
                            refine g_iload_n (n := 2) rfl rfl ?_
                            refine g_aload_n (n := 1) rfl rfl ?_
                            refine g_slen (k := 3) (n := 7) (x := 7) rfl rfl rfl rfl (by decide) (by omega) (by omega) (Nat.le_of_ble_eq_true rfl) ?_
                            refine g_icmp_ge (by decide) (by decide) (by decide) (by decide) rfl ?_ ?_
                            · intro kk28
                              exfalso; omega
                            · intro kk29
                              refine g_aload_n (n := 1) rfl rfl ?_
                              refine g_iload_n (n := 2) rfl rfl ?_
                              refine g_chr (k := 3) (j := 6) (idx := 117) (ch := 100) (by decide) (by decide) (by decide +kernel) (by omega) (by omega) (by decide +kernel) (show decode cX6_isHere 30 = .ok (.invokevirtual 117, 3) by decide +kernel) (Nat.le_of_ble_eq_true rfl) ?_
                              refine g_aload_n (n := 0) rfl rfl ?_
                              refine g_getf (v := vR 2) rfl (kl_1 _) rfl ?_
                              refine g_aload_n (n := 0) rfl rfl ?_
                              refine g_getf (v := vI (m.1 5)) rfl (kl_1 _) rfl ?_
                              refine g_iload_n (n := 2) rfl rfl ?_
                              refine g_iadd rfl ?_
                              have h30 : 0 ≤ m.2.1 2 (m.1 5 + 6) ∧ m.2.1 2 (m.1 5 + 6) ≤ 255 := hm.2 2 (m.1 5 + 6) (by omega) (show (m.1 5 + 6) < (200 : Int) by omega)
                              refine g_iald (f := m.2.1 2) rfl (kl_2 _) (by decide) (by omega) (by omega) ?_
                              refine g_icmp_eq (by decide) (by decide) (by omega) (by omega) rfl ?_ ?_
                              · intro kk31
                                refine g_iincE (z := 7) (by decide) (n := 2) (lo' := [(0, vR 1), (1, vE 5)]) rfl rfl rfl ?_
                                refine g_goto rfl ?_
                                refine g_iload_n (n := 2) rfl rfl ?_
                                refine g_aload_n (n := 1) rfl rfl ?_
                                refine g_slen (k := 3) (n := 7) (x := 7) rfl rfl rfl rfl (by decide) (by omega) (by omega) (Nat.le_of_ble_eq_true rfl) ?_
                                refine g_icmp_ge (by decide) (by decide) (by decide) (by decide) rfl ?_ ?_
                                · intro kk32
                                  refine g_iconst rfl ?_
                                  refine g_zret rfl rfl (by omega) ?_
                                  exact ⟨_, _, rfl, rfl, Or.inl ⟨rfl, by unfold wd3; omega⟩⟩
                                · intro kk33
                                  exfalso; omega
                              · intro kk34
                                refine g_iconst rfl ?_
                                refine g_zret rfl rfl (by omega) ?_
                                exact ⟨_, _, rfl, rfl, Or.inr ⟨rfl, by unfold wd3; omega⟩⟩
                          · intro kk35
                            refine g_iconst rfl ?_
                            refine g_zret rfl rfl (by omega) ?_
                            exact ⟨_, _, rfl, rfl, Or.inr ⟨rfl, by unfold wd3; omega⟩⟩
                      · intro kk36
                        refine g_iconst rfl ?_
                        refine g_zret rfl rfl (by omega) ?_
                        exact ⟨_, _, rfl, rfl, Or.inr ⟨rfl, by unfold wd3; omega⟩⟩
                  · intro kk37
                    refine g_iconst rfl ?_
                    refine g_zret rfl rfl (by omega) ?_
                    exact ⟨_, _, rfl, rfl, Or.inr ⟨rfl, by unfold wd3; omega⟩⟩
              · intro kk38
                refine g_iconst rfl ?_
                refine g_zret rfl rfl (by omega) ?_
                exact ⟨_, _, rfl, rfl, Or.inr ⟨rfl, by unfold wd3; omega⟩⟩
          · intro kk39
            refine g_iconst rfl ?_
            refine g_zret rfl rfl (by omega) ?_
            exact ⟨_, _, rfl, rfl, Or.inr ⟨rfl, by unfold wd3; omega⟩⟩
      · intro kk40
        refine g_iconst rfl ?_
        refine g_zret rfl rfl (by omega) ?_
        exact ⟨_, _, rfl, rfl, Or.inr ⟨rfl, by unfold wd3; omega⟩⟩
  · intro kk41
    refine g_iconst rfl ?_
    refine g_zret rfl rfl (by omega) ?_
    exact ⟨_, _, rfl, rfl, Or.inr ⟨rfl, by unfold wd3; omega⟩⟩
theorem c_wordOf_4 {V : cg_V} {d q : Nat} (hd : 0 ≤ d) (hq : 0 ≤ q) {m : kM} (hm : kI m) : cg_S V d q mX6_wordOf [vI 4] (kl m) (R_A (fun a m' => m = m' ∧ a = .inr 6)) := by
  refine cg_of (List.mem_of_getElem? (show ae_MT[69]? = some mX6_wordOf from rfl)) (Nat.le_of_ble_eq_true rfl) ?_
  show cg_G V mX6_wordOf d q _ 0 [(0, vI 4)] [] (kl m) 0 0
  refine g_iload_n (n := 0) rfl rfl ?_
  have kk1 : 4 = 4 := by omega
  refine g_tsw_in (tg := 72) (o9 := 71) (by omega) (by omega) rfl (by omega) (by omega) (rfl) (by decide) ?_
  refine g_ldcs rfl rfl rfl ?_
  refine g_aret rfl rfl ?_
  exact ⟨_, _, rfl, rfl, rfl⟩
theorem c_isHere_4 {V : cg_V} {d q : Nat} (hd : 4 ≤ d) (hq : 85 ≤ q) {m : kM} (hm : kI m) : cg_S V d q mX6_isHere [vR 1, vE 6] (kl m) (R_I (fun z m' => (m = m') ∧ ((z = 1 ∧ wd4 (m.2.1 2) (m.1 5) (m.1 6)) ∨ (z = 0 ∧ ¬ wd4 (m.2.1 2) (m.1 5) (m.1 6))))) := by
  refine cg_of (List.mem_of_getElem? (show ae_MT[72]? = some mX6_isHere from rfl)) (Nat.le_of_ble_eq_true rfl) ?_
  show cg_G V mX6_isHere d q _ 0 [(0, vR 1), (1, vE 6)] [] (kl m) 0 0
  have h1 : 0 ≤ m.1 5 ∧ m.1 5 ≤ 200 := hm.1 5
  have h2 : 0 ≤ m.1 6 ∧ m.1 6 ≤ 200 := hm.1 6
  refine g_aload_n (n := 1) rfl rfl ?_
  refine g_slen (k := 4) (n := 8) (x := 8) rfl rfl rfl rfl (by decide) (by omega) (by omega) (Nat.le_of_ble_eq_true rfl) ?_
  refine g_aload_n (n := 0) rfl rfl ?_
  refine g_getf (v := vI (m.1 6)) rfl (kl_1 _) rfl ?_
  refine g_aload_n (n := 0) rfl rfl ?_
  refine g_getf (v := vI (m.1 5)) rfl (kl_1 _) rfl ?_
  refine g_isub rfl ?_
  refine g_icmp_eq (by decide) (by decide) (by omega) (by omega) rfl ?_ ?_
  · intro kk3
    refine g_iconst rfl ?_
    refine g_istore_n (n := 2) (lo' := [(0, vR 1), (1, vE 6)]) rfl rfl ?_
    refine g_iload_n (n := 2) rfl rfl ?_
    refine g_aload_n (n := 1) rfl rfl ?_
    refine g_slen (k := 4) (n := 8) (x := 8) rfl rfl rfl rfl (by decide) (by omega) (by omega) (Nat.le_of_ble_eq_true rfl) ?_
    refine g_icmp_ge (by decide) (by decide) (by decide) (by decide) rfl ?_ ?_
    · intro kk4
      exfalso; omega
    · intro kk5
      refine g_aload_n (n := 1) rfl rfl ?_
      refine g_iload_n (n := 2) rfl rfl ?_
      refine g_chr (k := 4) (j := 0) (idx := 117) (ch := 115) (by decide) (by decide) (by decide +kernel) (by omega) (by omega) (by decide +kernel) (show decode cX6_isHere 30 = .ok (.invokevirtual 117, 3) by decide +kernel) (Nat.le_of_ble_eq_true rfl) ?_
      refine g_aload_n (n := 0) rfl rfl ?_
      refine g_getf (v := vR 2) rfl (kl_1 _) rfl ?_
      refine g_aload_n (n := 0) rfl rfl ?_
      refine g_getf (v := vI (m.1 5)) rfl (kl_1 _) rfl ?_
      refine g_iload_n (n := 2) rfl rfl ?_
      refine g_iaddE (z := m.1 5) (by omega) rfl ?_
      have h6 : 0 ≤ m.2.1 2 (m.1 5) ∧ m.2.1 2 (m.1 5) ≤ 255 := hm.2 2 (m.1 5) (by omega) (show m.1 5 < (200 : Int) by omega)
      refine g_iald (f := m.2.1 2) rfl (kl_2 _) (by decide) (by omega) (by omega) ?_
      refine g_icmp_eq (by decide) (by decide) (by omega) (by omega) rfl ?_ ?_
      · intro kk7
        refine g_iincE (z := 1) (by decide) (n := 2) (lo' := [(0, vR 1), (1, vE 6)]) rfl rfl rfl ?_
        refine g_goto rfl ?_
        refine g_iload_n (n := 2) rfl rfl ?_
        refine g_aload_n (n := 1) rfl rfl ?_
        refine g_slen (k := 4) (n := 8) (x := 8) rfl rfl rfl rfl (by decide) (by omega) (by omega) (Nat.le_of_ble_eq_true rfl) ?_
        refine g_icmp_ge (by decide) (by decide) (by decide) (by decide) rfl ?_ ?_
        · intro kk8
          exfalso; omega
        · intro kk9
          refine g_aload_n (n := 1) rfl rfl ?_
          refine g_iload_n (n := 2) rfl rfl ?_
          refine g_chr (k := 4) (j := 1) (idx := 117) (ch := 116) (by decide) (by decide) (by decide +kernel) (by omega) (by omega) (by decide +kernel) (show decode cX6_isHere 30 = .ok (.invokevirtual 117, 3) by decide +kernel) (Nat.le_of_ble_eq_true rfl) ?_
          refine g_aload_n (n := 0) rfl rfl ?_
          refine g_getf (v := vR 2) rfl (kl_1 _) rfl ?_
          refine g_aload_n (n := 0) rfl rfl ?_
          refine g_getf (v := vI (m.1 5)) rfl (kl_1 _) rfl ?_
          refine g_iload_n (n := 2) rfl rfl ?_
          refine g_iadd rfl ?_
          have h10 : 0 ≤ m.2.1 2 (m.1 5 + 1) ∧ m.2.1 2 (m.1 5 + 1) ≤ 255 := hm.2 2 (m.1 5 + 1) (by omega) (show (m.1 5 + 1) < (200 : Int) by omega)
          refine g_iald (f := m.2.1 2) rfl (kl_2 _) (by decide) (by omega) (by omega) ?_
          refine g_icmp_eq (by decide) (by decide) (by omega) (by omega) rfl ?_ ?_
          · intro kk11
            refine g_iincE (z := 2) (by decide) (n := 2) (lo' := [(0, vR 1), (1, vE 6)]) rfl rfl rfl ?_
            refine g_goto rfl ?_
            refine g_iload_n (n := 2) rfl rfl ?_
            refine g_aload_n (n := 1) rfl rfl ?_
            refine g_slen (k := 4) (n := 8) (x := 8) rfl rfl rfl rfl (by decide) (by omega) (by omega) (Nat.le_of_ble_eq_true rfl) ?_
            refine g_icmp_ge (by decide) (by decide) (by decide) (by decide) rfl ?_ ?_
            · intro kk12
              exfalso; omega
            · intro kk13
              refine g_aload_n (n := 1) rfl rfl ?_
              refine g_iload_n (n := 2) rfl rfl ?_
              refine g_chr (k := 4) (j := 2) (idx := 117) (ch := 105) (by decide) (by decide) (by decide +kernel) (by omega) (by omega) (by decide +kernel) (show decode cX6_isHere 30 = .ok (.invokevirtual 117, 3) by decide +kernel) (Nat.le_of_ble_eq_true rfl) ?_
              refine g_aload_n (n := 0) rfl rfl ?_
              refine g_getf (v := vR 2) rfl (kl_1 _) rfl ?_
              refine g_aload_n (n := 0) rfl rfl ?_
              refine g_getf (v := vI (m.1 5)) rfl (kl_1 _) rfl ?_
              refine g_iload_n (n := 2) rfl rfl ?_
              refine g_iadd rfl ?_
              have h14 : 0 ≤ m.2.1 2 (m.1 5 + 2) ∧ m.2.1 2 (m.1 5 + 2) ≤ 255 := hm.2 2 (m.1 5 + 2) (by omega) (show (m.1 5 + 2) < (200 : Int) by omega)
              refine g_iald (f := m.2.1 2) rfl (kl_2 _) (by decide) (by omega) (by omega) ?_
              refine g_icmp_eq (by decide) (by decide) (by omega) (by omega) rfl ?_ ?_
              · intro kk15
                refine g_iincE (z := 3) (by decide) (n := 2) (lo' := [(0, vR 1), (1, vE 6)]) rfl rfl rfl ?_
                refine g_goto rfl ?_
                refine g_iload_n (n := 2) rfl rfl ?_
                refine g_aload_n (n := 1) rfl rfl ?_
                refine g_slen (k := 4) (n := 8) (x := 8) rfl rfl rfl rfl (by decide) (by omega) (by omega) (Nat.le_of_ble_eq_true rfl) ?_
                refine g_icmp_ge (by decide) (by decide) (by decide) (by decide) rfl ?_ ?_
                · intro kk16
                  exfalso; omega
                · intro kk17
                  refine g_aload_n (n := 1) rfl rfl ?_
                  refine g_iload_n (n := 2) rfl rfl ?_
                  refine g_chr (k := 4) (j := 3) (idx := 117) (ch := 99) (by decide) (by decide) (by decide +kernel) (by omega) (by omega) (by decide +kernel) (show decode cX6_isHere 30 = .ok (.invokevirtual 117, 3) by decide +kernel) (Nat.le_of_ble_eq_true rfl) ?_
                  refine g_aload_n (n := 0) rfl rfl ?_
                  refine g_getf (v := vR 2) rfl (kl_1 _) rfl ?_
                  refine g_aload_n (n := 0) rfl rfl ?_
                  refine g_getf (v := vI (m.1 5)) rfl (kl_1 _) rfl ?_
                  refine g_iload_n (n := 2) rfl rfl ?_
                  refine g_iadd rfl ?_
                  have h18 : 0 ≤ m.2.1 2 (m.1 5 + 3) ∧ m.2.1 2 (m.1 5 + 3) ≤ 255 := hm.2 2 (m.1 5 + 3) (by omega) (show (m.1 5 + 3) < (200 : Int) by omega)
                  refine g_iald (f := m.2.1 2) rfl (kl_2 _) (by decide) (by omega) (by omega) ?_
                  refine g_icmp_eq (by decide) (by decide) (by omega) (by omega) rfl ?_ ?_
                  · intro kk19
                    refine g_iincE (z := 4) (by decide) (n := 2) (lo' := [(0, vR 1), (1, vE 6)]) rfl rfl rfl ?_
                    refine g_goto rfl ?_
                    refine g_iload_n (n := 2) rfl rfl ?_
                    refine g_aload_n (n := 1) rfl rfl ?_
                    refine g_slen (k := 4) (n := 8) (x := 8) rfl rfl rfl rfl (by decide) (by omega) (by omega) (Nat.le_of_ble_eq_true rfl) ?_
                    refine g_icmp_ge (by decide) (by decide) (by decide) (by decide) rfl ?_ ?_
                    · intro kk20
                      exfalso; omega
                    · intro kk21
                      refine g_aload_n (n := 1) rfl rfl ?_
                      refine g_iload_n (n := 2) rfl rfl ?_
                      refine g_chr (k := 4) (j := 4) (idx := 117) (ch := 107) (by decide) (by decide) (by decide +kernel) (by omega) (by omega) (by decide +kernel) (show decode cX6_isHere 30 = .ok (.invokevirtual 117, 3) by decide +kernel) (Nat.le_of_ble_eq_true rfl) ?_
                      refine g_aload_n (n := 0) rfl rfl ?_
                      refine g_getf (v := vR 2) rfl (kl_1 _) rfl ?_
                      refine g_aload_n (n := 0) rfl rfl ?_
                      refine g_getf (v := vI (m.1 5)) rfl (kl_1 _) rfl ?_
                      refine g_iload_n (n := 2) rfl rfl ?_
                      refine g_iadd rfl ?_
                      have h22 : 0 ≤ m.2.1 2 (m.1 5 + 4) ∧ m.2.1 2 (m.1 5 + 4) ≤ 255 := hm.2 2 (m.1 5 + 4) (by omega) (show (m.1 5 + 4) < (200 : Int) by omega)
                      refine g_iald (f := m.2.1 2) rfl (kl_2 _) (by decide) (by omega) (by omega) ?_
                      refine g_icmp_eq (by decide) (by decide) (by omega) (by omega) rfl ?_ ?_
                      · intro kk23
                        refine g_iincE (z := 5) (by decide) (n := 2) (lo' := [(0, vR 1), (1, vE 6)]) rfl rfl rfl ?_
                        refine g_goto rfl ?_
                        refine g_iload_n (n := 2) rfl rfl ?_
                        refine g_aload_n (n := 1) rfl rfl ?_
                        refine g_slen (k := 4) (n := 8) (x := 8) rfl rfl rfl rfl (by decide) (by omega) (by omega) (Nat.le_of_ble_eq_true rfl) ?_
                        refine g_icmp_ge (by decide) (by decide) (by decide) (by decide) rfl ?_ ?_
                        · intro kk24
                          exfalso; omega
                        · intro kk25
                          refine g_aload_n (n := 1) rfl rfl ?_
                          refine g_iload_n (n := 2) rfl rfl ?_
                          refine g_chr (k := 4) (j := 5) (idx := 117) (ch := 105) (by decide) (by decide) (by decide +kernel) (by omega) (by omega) (by decide +kernel) (show decode cX6_isHere 30 = .ok (.invokevirtual 117, 3) by decide +kernel) (Nat.le_of_ble_eq_true rfl) ?_
                          refine g_aload_n (n := 0) rfl rfl ?_
                          refine g_getf (v := vR 2) rfl (kl_1 _) rfl ?_
                          refine g_aload_n (n := 0) rfl rfl ?_
                          refine g_getf (v := vI (m.1 5)) rfl (kl_1 _) rfl ?_
                          refine g_iload_n (n := 2) rfl rfl ?_
                          refine g_iadd rfl ?_
                          have h26 : 0 ≤ m.2.1 2 (m.1 5 + 5) ∧ m.2.1 2 (m.1 5 + 5) ≤ 255 := hm.2 2 (m.1 5 + 5) (by omega) (show (m.1 5 + 5) < (200 : Int) by omega)
                          refine g_iald (f := m.2.1 2) rfl (kl_2 _) (by decide) (by omega) (by omega) ?_
                          refine g_icmp_eq (by decide) (by decide) (by omega) (by omega) rfl ?_ ?_
                          · intro kk27
                            refine g_iincE (z := 6) (by decide) (n := 2) (lo' := [(0, vR 1), (1, vE 6)]) rfl rfl rfl ?_
                            refine g_goto rfl ?_
                            refine g_iload_n (n := 2) rfl rfl ?_
                            refine g_aload_n (n := 1) rfl rfl ?_
                            refine g_slen (k := 4) (n := 8) (x := 8) rfl rfl rfl rfl (by decide) (by omega) (by omega) (Nat.le_of_ble_eq_true rfl) ?_
                            refine g_icmp_ge (by decide) (by decide) (by decide) (by decide) rfl ?_ ?_
                            · intro kk28
                              exfalso; omega
                            · intro kk29
                              refine g_aload_n (n := 1) rfl rfl ?_
                              refine g_iload_n (n := 2) rfl rfl ?_
                              refine g_chr (k := 4) (j := 6) (idx := 117) (ch := 110) (by decide) (by decide) (by decide +kernel) (by omega) (by omega) (by decide +kernel) (show decode cX6_isHere 30 = .ok (.invokevirtual 117, 3) by decide +kernel) (Nat.le_of_ble_eq_true rfl) ?_
                              refine g_aload_n (n := 0) rfl rfl ?_
                              refine g_getf (v := vR 2) rfl (kl_1 _) rfl ?_
                              refine g_aload_n (n := 0) rfl rfl ?_
                              refine g_getf (v := vI (m.1 5)) rfl (kl_1 _) rfl ?_
                              refine g_iload_n (n := 2) rfl rfl ?_
                              refine g_iadd rfl ?_
                              have h30 : 0 ≤ m.2.1 2 (m.1 5 + 6) ∧ m.2.1 2 (m.1 5 + 6) ≤ 255 := hm.2 2 (m.1 5 + 6) (by omega) (show (m.1 5 + 6) < (200 : Int) by omega)
                              refine g_iald (f := m.2.1 2) rfl (kl_2 _) (by decide) (by omega) (by omega) ?_
                              refine g_icmp_eq (by decide) (by decide) (by omega) (by omega) rfl ?_ ?_
                              · intro kk31
                                refine g_iincE (z := 7) (by decide) (n := 2) (lo' := [(0, vR 1), (1, vE 6)]) rfl rfl rfl ?_
                                refine g_goto rfl ?_
                                refine g_iload_n (n := 2) rfl rfl ?_
                                refine g_aload_n (n := 1) rfl rfl ?_
                                refine g_slen (k := 4) (n := 8) (x := 8) rfl rfl rfl rfl (by decide) (by omega) (by omega) (Nat.le_of_ble_eq_true rfl) ?_
                                refine g_icmp_ge (by decide) (by decide) (by decide) (by decide) rfl ?_ ?_
                                · intro kk32
                                  exfalso; omega
                                · intro kk33
                                  refine g_aload_n (n := 1) rfl rfl ?_
                                  refine g_iload_n (n := 2) rfl rfl ?_
                                  refine g_chr (k := 4) (j := 7) (idx := 117) (ch := 103) (by decide) (by decide) (by decide +kernel) (by omega) (by omega) (by decide +kernel) (show decode cX6_isHere 30 = .ok (.invokevirtual 117, 3) by decide +kernel) (Nat.le_of_ble_eq_true rfl) ?_
                                  refine g_aload_n (n := 0) rfl rfl ?_
                                  refine g_getf (v := vR 2) rfl (kl_1 _) rfl ?_
                                  refine g_aload_n (n := 0) rfl rfl ?_
                                  refine g_getf (v := vI (m.1 5)) rfl (kl_1 _) rfl ?_
                                  refine g_iload_n (n := 2) rfl rfl ?_
                                  refine g_iadd rfl ?_
                                  have h34 : 0 ≤ m.2.1 2 (m.1 5 + 7) ∧ m.2.1 2 (m.1 5 + 7) ≤ 255 := hm.2 2 (m.1 5 + 7) (by omega) (show (m.1 5 + 7) < (200 : Int) by omega)
                                  refine g_iald (f := m.2.1 2) rfl (kl_2 _) (by decide) (by omega) (by omega) ?_
                                  refine g_icmp_eq (by decide) (by decide) (by omega) (by omega) rfl ?_ ?_
                                  · intro kk35
                                    refine g_iincE (z := 8) (by decide) (n := 2) (lo' := [(0, vR 1), (1, vE 6)]) rfl rfl rfl ?_
                                    refine g_goto rfl ?_
                                    refine g_iload_n (n := 2) rfl rfl ?_
                                    refine g_aload_n (n := 1) rfl rfl ?_
                                    refine g_slen (k := 4) (n := 8) (x := 8) rfl rfl rfl rfl (by decide) (by omega) (by omega) (Nat.le_of_ble_eq_true rfl) ?_
                                    refine g_icmp_ge (by decide) (by decide) (by decide) (by decide) rfl ?_ ?_
                                    · intro kk36
                                      refine g_iconst rfl ?_
                                      refine g_zret rfl rfl (by omega) ?_
                                      exact ⟨_, _, rfl, rfl, Or.inl ⟨rfl, by unfold wd4; omega⟩⟩
                                    · intro kk37
                                      exfalso; omega
                                  · intro kk38
                                    refine g_iconst rfl ?_
                                    refine g_zret rfl rfl (by omega) ?_
                                    exact ⟨_, _, rfl, rfl, Or.inr ⟨rfl, by unfold wd4; omega⟩⟩
                              · intro kk39
                                refine g_iconst rfl ?_
                                refine g_zret rfl rfl (by omega) ?_
                                exact ⟨_, _, rfl, rfl, Or.inr ⟨rfl, by unfold wd4; omega⟩⟩
                          · intro kk40
                            refine g_iconst rfl ?_
                            refine g_zret rfl rfl (by omega) ?_
                            exact ⟨_, _, rfl, rfl, Or.inr ⟨rfl, by unfold wd4; omega⟩⟩
                      · intro kk41
                        refine g_iconst rfl ?_
                        refine g_zret rfl rfl (by omega) ?_
                        exact ⟨_, _, rfl, rfl, Or.inr ⟨rfl, by unfold wd4; omega⟩⟩
                  · intro kk42
                    refine g_iconst rfl ?_
                    refine g_zret rfl rfl (by omega) ?_
                    exact ⟨_, _, rfl, rfl, Or.inr ⟨rfl, by unfold wd4; omega⟩⟩
              · intro kk43
                refine g_iconst rfl ?_
                refine g_zret rfl rfl (by omega) ?_
                exact ⟨_, _, rfl, rfl, Or.inr ⟨rfl, by unfold wd4; omega⟩⟩
          · intro kk44
            refine g_iconst rfl ?_
            refine g_zret rfl rfl (by omega) ?_
            exact ⟨_, _, rfl, rfl, Or.inr ⟨rfl, by unfold wd4; omega⟩⟩
      · intro kk45
        refine g_iconst rfl ?_
        refine g_zret rfl rfl (by omega) ?_
        exact ⟨_, _, rfl, rfl, Or.inr ⟨rfl, by unfold wd4; omega⟩⟩
  · intro kk46
    refine g_iconst rfl ?_
    refine g_zret rfl rfl (by omega) ?_
    exact ⟨_, _, rfl, rfl, Or.inr ⟨rfl, by unfold wd4; omega⟩⟩
theorem c_wordOf_5 {V : cg_V} {d q : Nat} (hd : 0 ≤ d) (hq : 0 ≤ q) {m : kM} (hm : kI m) : cg_S V d q mX6_wordOf [vI 5] (kl m) (R_A (fun a m' => m = m' ∧ a = .inr 7)) := by
  refine cg_of (List.mem_of_getElem? (show ae_MT[69]? = some mX6_wordOf from rfl)) (Nat.le_of_ble_eq_true rfl) ?_
  show cg_G V mX6_wordOf d q _ 0 [(0, vI 5)] [] (kl m) 0 0
  refine g_iload_n (n := 0) rfl rfl ?_
  have kk1 : 5 = 5 := by omega
  refine g_tsw_in (tg := 75) (o9 := 74) (by omega) (by omega) rfl (by omega) (by omega) (rfl) (by decide) ?_
  refine g_ldcs rfl rfl rfl ?_
  refine g_aret rfl rfl ?_
  exact ⟨_, _, rfl, rfl, rfl⟩
theorem c_isHere_5 {V : cg_V} {d q : Nat} (hd : 4 ≤ d) (hq : 85 ≤ q) {m : kM} (hm : kI m) : cg_S V d q mX6_isHere [vR 1, vE 7] (kl m) (R_I (fun z m' => (m = m') ∧ ((z = 1 ∧ wd5 (m.2.1 2) (m.1 5) (m.1 6)) ∨ (z = 0 ∧ ¬ wd5 (m.2.1 2) (m.1 5) (m.1 6))))) := by
  refine cg_of (List.mem_of_getElem? (show ae_MT[72]? = some mX6_isHere from rfl)) (Nat.le_of_ble_eq_true rfl) ?_
  show cg_G V mX6_isHere d q _ 0 [(0, vR 1), (1, vE 7)] [] (kl m) 0 0
  have h1 : 0 ≤ m.1 5 ∧ m.1 5 ≤ 200 := hm.1 5
  have h2 : 0 ≤ m.1 6 ∧ m.1 6 ≤ 200 := hm.1 6
  refine g_aload_n (n := 1) rfl rfl ?_
  refine g_slen (k := 5) (n := 5) (x := 5) rfl rfl rfl rfl (by decide) (by omega) (by omega) (Nat.le_of_ble_eq_true rfl) ?_
  refine g_aload_n (n := 0) rfl rfl ?_
  refine g_getf (v := vI (m.1 6)) rfl (kl_1 _) rfl ?_
  refine g_aload_n (n := 0) rfl rfl ?_
  refine g_getf (v := vI (m.1 5)) rfl (kl_1 _) rfl ?_
  refine g_isub rfl ?_
  refine g_icmp_eq (by decide) (by decide) (by omega) (by omega) rfl ?_ ?_
  · intro kk3
    refine g_iconst rfl ?_
    refine g_istore_n (n := 2) (lo' := [(0, vR 1), (1, vE 7)]) rfl rfl ?_
    refine g_iload_n (n := 2) rfl rfl ?_
    refine g_aload_n (n := 1) rfl rfl ?_
    refine g_slen (k := 5) (n := 5) (x := 5) rfl rfl rfl rfl (by decide) (by omega) (by omega) (Nat.le_of_ble_eq_true rfl) ?_
    refine g_icmp_ge (by decide) (by decide) (by decide) (by decide) rfl ?_ ?_
    · intro kk4
      exfalso; omega
    · intro kk5
      refine g_aload_n (n := 1) rfl rfl ?_
      refine g_iload_n (n := 2) rfl rfl ?_
      refine g_chr (k := 5) (j := 0) (idx := 117) (ch := 102) (by decide) (by decide) (by decide +kernel) (by omega) (by omega) (by decide +kernel) (show decode cX6_isHere 30 = .ok (.invokevirtual 117, 3) by decide +kernel) (Nat.le_of_ble_eq_true rfl) ?_
      refine g_aload_n (n := 0) rfl rfl ?_
      refine g_getf (v := vR 2) rfl (kl_1 _) rfl ?_
      refine g_aload_n (n := 0) rfl rfl ?_
      refine g_getf (v := vI (m.1 5)) rfl (kl_1 _) rfl ?_
      refine g_iload_n (n := 2) rfl rfl ?_
      refine g_iaddE (z := m.1 5) (by omega) rfl ?_
      have h6 : 0 ≤ m.2.1 2 (m.1 5) ∧ m.2.1 2 (m.1 5) ≤ 255 := hm.2 2 (m.1 5) (by omega) (show m.1 5 < (200 : Int) by omega)
      refine g_iald (f := m.2.1 2) rfl (kl_2 _) (by decide) (by omega) (by omega) ?_
      refine g_icmp_eq (by decide) (by decide) (by omega) (by omega) rfl ?_ ?_
      · intro kk7
        refine g_iincE (z := 1) (by decide) (n := 2) (lo' := [(0, vR 1), (1, vE 7)]) rfl rfl rfl ?_
        refine g_goto rfl ?_
        refine g_iload_n (n := 2) rfl rfl ?_
        refine g_aload_n (n := 1) rfl rfl ?_
        refine g_slen (k := 5) (n := 5) (x := 5) rfl rfl rfl rfl (by decide) (by omega) (by omega) (Nat.le_of_ble_eq_true rfl) ?_
        refine g_icmp_ge (by decide) (by decide) (by decide) (by decide) rfl ?_ ?_
        · intro kk8
          exfalso; omega
        · intro kk9
          refine g_aload_n (n := 1) rfl rfl ?_
          refine g_iload_n (n := 2) rfl rfl ?_
          refine g_chr (k := 5) (j := 1) (idx := 117) (ch := 97) (by decide) (by decide) (by decide +kernel) (by omega) (by omega) (by decide +kernel) (show decode cX6_isHere 30 = .ok (.invokevirtual 117, 3) by decide +kernel) (Nat.le_of_ble_eq_true rfl) ?_
          refine g_aload_n (n := 0) rfl rfl ?_
          refine g_getf (v := vR 2) rfl (kl_1 _) rfl ?_
          refine g_aload_n (n := 0) rfl rfl ?_
          refine g_getf (v := vI (m.1 5)) rfl (kl_1 _) rfl ?_
          refine g_iload_n (n := 2) rfl rfl ?_
          refine g_iadd rfl ?_
          have h10 : 0 ≤ m.2.1 2 (m.1 5 + 1) ∧ m.2.1 2 (m.1 5 + 1) ≤ 255 := hm.2 2 (m.1 5 + 1) (by omega) (show (m.1 5 + 1) < (200 : Int) by omega)
          refine g_iald (f := m.2.1 2) rfl (kl_2 _) (by decide) (by omega) (by omega) ?_
          refine g_icmp_eq (by decide) (by decide) (by omega) (by omega) rfl ?_ ?_
          · intro kk11
            refine g_iincE (z := 2) (by decide) (n := 2) (lo' := [(0, vR 1), (1, vE 7)]) rfl rfl rfl ?_
            refine g_goto rfl ?_
            refine g_iload_n (n := 2) rfl rfl ?_
            refine g_aload_n (n := 1) rfl rfl ?_
            refine g_slen (k := 5) (n := 5) (x := 5) rfl rfl rfl rfl (by decide) (by omega) (by omega) (Nat.le_of_ble_eq_true rfl) ?_
            refine g_icmp_ge (by decide) (by decide) (by decide) (by decide) rfl ?_ ?_
            · intro kk12
              exfalso; omega
            · intro kk13
              refine g_aload_n (n := 1) rfl rfl ?_
              refine g_iload_n (n := 2) rfl rfl ?_
              refine g_chr (k := 5) (j := 2) (idx := 117) (ch := 108) (by decide) (by decide) (by decide +kernel) (by omega) (by omega) (by decide +kernel) (show decode cX6_isHere 30 = .ok (.invokevirtual 117, 3) by decide +kernel) (Nat.le_of_ble_eq_true rfl) ?_
              refine g_aload_n (n := 0) rfl rfl ?_
              refine g_getf (v := vR 2) rfl (kl_1 _) rfl ?_
              refine g_aload_n (n := 0) rfl rfl ?_
              refine g_getf (v := vI (m.1 5)) rfl (kl_1 _) rfl ?_
              refine g_iload_n (n := 2) rfl rfl ?_
              refine g_iadd rfl ?_
              have h14 : 0 ≤ m.2.1 2 (m.1 5 + 2) ∧ m.2.1 2 (m.1 5 + 2) ≤ 255 := hm.2 2 (m.1 5 + 2) (by omega) (show (m.1 5 + 2) < (200 : Int) by omega)
              refine g_iald (f := m.2.1 2) rfl (kl_2 _) (by decide) (by omega) (by omega) ?_
              refine g_icmp_eq (by decide) (by decide) (by omega) (by omega) rfl ?_ ?_
              · intro kk15
                refine g_iincE (z := 3) (by decide) (n := 2) (lo' := [(0, vR 1), (1, vE 7)]) rfl rfl rfl ?_
                refine g_goto rfl ?_
                refine g_iload_n (n := 2) rfl rfl ?_
                refine g_aload_n (n := 1) rfl rfl ?_
                refine g_slen (k := 5) (n := 5) (x := 5) rfl rfl rfl rfl (by decide) (by omega) (by omega) (Nat.le_of_ble_eq_true rfl) ?_
                refine g_icmp_ge (by decide) (by decide) (by decide) (by decide) rfl ?_ ?_
                · intro kk16
                  exfalso; omega
                · intro kk17
                  refine g_aload_n (n := 1) rfl rfl ?_
                  refine g_iload_n (n := 2) rfl rfl ?_
                  refine g_chr (k := 5) (j := 3) (idx := 117) (ch := 115) (by decide) (by decide) (by decide +kernel) (by omega) (by omega) (by decide +kernel) (show decode cX6_isHere 30 = .ok (.invokevirtual 117, 3) by decide +kernel) (Nat.le_of_ble_eq_true rfl) ?_
                  refine g_aload_n (n := 0) rfl rfl ?_
                  refine g_getf (v := vR 2) rfl (kl_1 _) rfl ?_
                  refine g_aload_n (n := 0) rfl rfl ?_
                  refine g_getf (v := vI (m.1 5)) rfl (kl_1 _) rfl ?_
                  refine g_iload_n (n := 2) rfl rfl ?_
                  refine g_iadd rfl ?_
                  have h18 : 0 ≤ m.2.1 2 (m.1 5 + 3) ∧ m.2.1 2 (m.1 5 + 3) ≤ 255 := hm.2 2 (m.1 5 + 3) (by omega) (show (m.1 5 + 3) < (200 : Int) by omega)
                  refine g_iald (f := m.2.1 2) rfl (kl_2 _) (by decide) (by omega) (by omega) ?_
                  refine g_icmp_eq (by decide) (by decide) (by omega) (by omega) rfl ?_ ?_
                  · intro kk19
                    refine g_iincE (z := 4) (by decide) (n := 2) (lo' := [(0, vR 1), (1, vE 7)]) rfl rfl rfl ?_
                    refine g_goto rfl ?_
                    refine g_iload_n (n := 2) rfl rfl ?_
                    refine g_aload_n (n := 1) rfl rfl ?_
                    refine g_slen (k := 5) (n := 5) (x := 5) rfl rfl rfl rfl (by decide) (by omega) (by omega) (Nat.le_of_ble_eq_true rfl) ?_
                    refine g_icmp_ge (by decide) (by decide) (by decide) (by decide) rfl ?_ ?_
                    · intro kk20
                      exfalso; omega
                    · intro kk21
                      refine g_aload_n (n := 1) rfl rfl ?_
                      refine g_iload_n (n := 2) rfl rfl ?_
                      refine g_chr (k := 5) (j := 4) (idx := 117) (ch := 101) (by decide) (by decide) (by decide +kernel) (by omega) (by omega) (by decide +kernel) (show decode cX6_isHere 30 = .ok (.invokevirtual 117, 3) by decide +kernel) (Nat.le_of_ble_eq_true rfl) ?_
                      refine g_aload_n (n := 0) rfl rfl ?_
                      refine g_getf (v := vR 2) rfl (kl_1 _) rfl ?_
                      refine g_aload_n (n := 0) rfl rfl ?_
                      refine g_getf (v := vI (m.1 5)) rfl (kl_1 _) rfl ?_
                      refine g_iload_n (n := 2) rfl rfl ?_
                      refine g_iadd rfl ?_
                      have h22 : 0 ≤ m.2.1 2 (m.1 5 + 4) ∧ m.2.1 2 (m.1 5 + 4) ≤ 255 := hm.2 2 (m.1 5 + 4) (by omega) (show (m.1 5 + 4) < (200 : Int) by omega)
                      refine g_iald (f := m.2.1 2) rfl (kl_2 _) (by decide) (by omega) (by omega) ?_
                      refine g_icmp_eq (by decide) (by decide) (by omega) (by omega) rfl ?_ ?_
                      · intro kk23
                        refine g_iincE (z := 5) (by decide) (n := 2) (lo' := [(0, vR 1), (1, vE 7)]) rfl rfl rfl ?_
                        refine g_goto rfl ?_
                        refine g_iload_n (n := 2) rfl rfl ?_
                        refine g_aload_n (n := 1) rfl rfl ?_
                        refine g_slen (k := 5) (n := 5) (x := 5) rfl rfl rfl rfl (by decide) (by omega) (by omega) (Nat.le_of_ble_eq_true rfl) ?_
                        refine g_icmp_ge (by decide) (by decide) (by decide) (by decide) rfl ?_ ?_
                        · intro kk24
                          refine g_iconst rfl ?_
                          refine g_zret rfl rfl (by omega) ?_
                          exact ⟨_, _, rfl, rfl, Or.inl ⟨rfl, by unfold wd5; omega⟩⟩
                        · intro kk25
                          exfalso; omega
                      · intro kk26
                        refine g_iconst rfl ?_
                        refine g_zret rfl rfl (by omega) ?_
                        exact ⟨_, _, rfl, rfl, Or.inr ⟨rfl, by unfold wd5; omega⟩⟩
                  · intro kk27
                    refine g_iconst rfl ?_
                    refine g_zret rfl rfl (by omega) ?_
                    exact ⟨_, _, rfl, rfl, Or.inr ⟨rfl, by unfold wd5; omega⟩⟩
              · intro kk28
                refine g_iconst rfl ?_
                refine g_zret rfl rfl (by omega) ?_
                exact ⟨_, _, rfl, rfl, Or.inr ⟨rfl, by unfold wd5; omega⟩⟩
          · intro kk29
            refine g_iconst rfl ?_
            refine g_zret rfl rfl (by omega) ?_
            exact ⟨_, _, rfl, rfl, Or.inr ⟨rfl, by unfold wd5; omega⟩⟩
      · intro kk30
        refine g_iconst rfl ?_
        refine g_zret rfl rfl (by omega) ?_
        exact ⟨_, _, rfl, rfl, Or.inr ⟨rfl, by unfold wd5; omega⟩⟩
  · intro kk31
    refine g_iconst rfl ?_
    refine g_zret rfl rfl (by omega) ?_
    exact ⟨_, _, rfl, rfl, Or.inr ⟨rfl, by unfold wd5; omega⟩⟩
theorem c_wordOf_6 {V : cg_V} {d q : Nat} (hd : 0 ≤ d) (hq : 0 ≤ q) {m : kM} (hm : kI m) : cg_S V d q mX6_wordOf [vI 6] (kl m) (R_A (fun a m' => m = m' ∧ a = .inr 8)) := by
  refine cg_of (List.mem_of_getElem? (show ae_MT[69]? = some mX6_wordOf from rfl)) (Nat.le_of_ble_eq_true rfl) ?_
  show cg_G V mX6_wordOf d q _ 0 [(0, vI 6)] [] (kl m) 0 0
  refine g_iload_n (n := 0) rfl rfl ?_
  have kk1 : 6 = 6 := by omega
  refine g_tsw_in (tg := 78) (o9 := 77) (by omega) (by omega) rfl (by omega) (by omega) (rfl) (by decide) ?_
  refine g_ldcs rfl rfl rfl ?_
  refine g_aret rfl rfl ?_
  exact ⟨_, _, rfl, rfl, rfl⟩
theorem c_isHere_6 {V : cg_V} {d q : Nat} (hd : 4 ≤ d) (hq : 85 ≤ q) {m : kM} (hm : kI m) : cg_S V d q mX6_isHere [vR 1, vE 8] (kl m) (R_I (fun z m' => (m = m') ∧ ((z = 1 ∧ wd6 (m.2.1 2) (m.1 5) (m.1 6)) ∨ (z = 0 ∧ ¬ wd6 (m.2.1 2) (m.1 5) (m.1 6))))) := by
  refine cg_of (List.mem_of_getElem? (show ae_MT[72]? = some mX6_isHere from rfl)) (Nat.le_of_ble_eq_true rfl) ?_
  show cg_G V mX6_isHere d q _ 0 [(0, vR 1), (1, vE 8)] [] (kl m) 0 0
  have h1 : 0 ≤ m.1 5 ∧ m.1 5 ≤ 200 := hm.1 5
  have h2 : 0 ≤ m.1 6 ∧ m.1 6 ≤ 200 := hm.1 6
  refine g_aload_n (n := 1) rfl rfl ?_
  refine g_slen (k := 6) (n := 4) (x := 4) rfl rfl rfl rfl (by decide) (by omega) (by omega) (Nat.le_of_ble_eq_true rfl) ?_
  refine g_aload_n (n := 0) rfl rfl ?_
  refine g_getf (v := vI (m.1 6)) rfl (kl_1 _) rfl ?_
  refine g_aload_n (n := 0) rfl rfl ?_
  refine g_getf (v := vI (m.1 5)) rfl (kl_1 _) rfl ?_
  refine g_isub rfl ?_
  refine g_icmp_eq (by decide) (by decide) (by omega) (by omega) rfl ?_ ?_
  · intro kk3
    refine g_iconst rfl ?_
    refine g_istore_n (n := 2) (lo' := [(0, vR 1), (1, vE 8)]) rfl rfl ?_
    refine g_iload_n (n := 2) rfl rfl ?_
    refine g_aload_n (n := 1) rfl rfl ?_
    refine g_slen (k := 6) (n := 4) (x := 4) rfl rfl rfl rfl (by decide) (by omega) (by omega) (Nat.le_of_ble_eq_true rfl) ?_
    refine g_icmp_ge (by decide) (by decide) (by decide) (by decide) rfl ?_ ?_
    · intro kk4
      exfalso; omega
    · intro kk5
      refine g_aload_n (n := 1) rfl rfl ?_
      refine g_iload_n (n := 2) rfl rfl ?_
      refine g_chr (k := 6) (j := 0) (idx := 117) (ch := 103) (by decide) (by decide) (by decide +kernel) (by omega) (by omega) (by decide +kernel) (show decode cX6_isHere 30 = .ok (.invokevirtual 117, 3) by decide +kernel) (Nat.le_of_ble_eq_true rfl) ?_
      refine g_aload_n (n := 0) rfl rfl ?_
      refine g_getf (v := vR 2) rfl (kl_1 _) rfl ?_
      refine g_aload_n (n := 0) rfl rfl ?_
      refine g_getf (v := vI (m.1 5)) rfl (kl_1 _) rfl ?_
      refine g_iload_n (n := 2) rfl rfl ?_
      refine g_iaddE (z := m.1 5) (by omega) rfl ?_
      have h6 : 0 ≤ m.2.1 2 (m.1 5) ∧ m.2.1 2 (m.1 5) ≤ 255 := hm.2 2 (m.1 5) (by omega) (show m.1 5 < (200 : Int) by omega)
      refine g_iald (f := m.2.1 2) rfl (kl_2 _) (by decide) (by omega) (by omega) ?_
      refine g_icmp_eq (by decide) (by decide) (by omega) (by omega) rfl ?_ ?_
      · intro kk7
        refine g_iincE (z := 1) (by decide) (n := 2) (lo' := [(0, vR 1), (1, vE 8)]) rfl rfl rfl ?_
        refine g_goto rfl ?_
        refine g_iload_n (n := 2) rfl rfl ?_
        refine g_aload_n (n := 1) rfl rfl ?_
        refine g_slen (k := 6) (n := 4) (x := 4) rfl rfl rfl rfl (by decide) (by omega) (by omega) (Nat.le_of_ble_eq_true rfl) ?_
        refine g_icmp_ge (by decide) (by decide) (by decide) (by decide) rfl ?_ ?_
        · intro kk8
          exfalso; omega
        · intro kk9
          refine g_aload_n (n := 1) rfl rfl ?_
          refine g_iload_n (n := 2) rfl rfl ?_
          refine g_chr (k := 6) (j := 1) (idx := 117) (ch := 97) (by decide) (by decide) (by decide +kernel) (by omega) (by omega) (by decide +kernel) (show decode cX6_isHere 30 = .ok (.invokevirtual 117, 3) by decide +kernel) (Nat.le_of_ble_eq_true rfl) ?_
          refine g_aload_n (n := 0) rfl rfl ?_
          refine g_getf (v := vR 2) rfl (kl_1 _) rfl ?_
          refine g_aload_n (n := 0) rfl rfl ?_
          refine g_getf (v := vI (m.1 5)) rfl (kl_1 _) rfl ?_
          refine g_iload_n (n := 2) rfl rfl ?_
          refine g_iadd rfl ?_
          have h10 : 0 ≤ m.2.1 2 (m.1 5 + 1) ∧ m.2.1 2 (m.1 5 + 1) ≤ 255 := hm.2 2 (m.1 5 + 1) (by omega) (show (m.1 5 + 1) < (200 : Int) by omega)
          refine g_iald (f := m.2.1 2) rfl (kl_2 _) (by decide) (by omega) (by omega) ?_
          refine g_icmp_eq (by decide) (by decide) (by omega) (by omega) rfl ?_ ?_
          · intro kk11
            refine g_iincE (z := 2) (by decide) (n := 2) (lo' := [(0, vR 1), (1, vE 8)]) rfl rfl rfl ?_
            refine g_goto rfl ?_
            refine g_iload_n (n := 2) rfl rfl ?_
            refine g_aload_n (n := 1) rfl rfl ?_
            refine g_slen (k := 6) (n := 4) (x := 4) rfl rfl rfl rfl (by decide) (by omega) (by omega) (Nat.le_of_ble_eq_true rfl) ?_
            refine g_icmp_ge (by decide) (by decide) (by decide) (by decide) rfl ?_ ?_
            · intro kk12
              exfalso; omega
            · intro kk13
              refine g_aload_n (n := 1) rfl rfl ?_
              refine g_iload_n (n := 2) rfl rfl ?_
              refine g_chr (k := 6) (j := 2) (idx := 117) (ch := 111) (by decide) (by decide) (by decide +kernel) (by omega) (by omega) (by decide +kernel) (show decode cX6_isHere 30 = .ok (.invokevirtual 117, 3) by decide +kernel) (Nat.le_of_ble_eq_true rfl) ?_
              refine g_aload_n (n := 0) rfl rfl ?_
              refine g_getf (v := vR 2) rfl (kl_1 _) rfl ?_
              refine g_aload_n (n := 0) rfl rfl ?_
              refine g_getf (v := vI (m.1 5)) rfl (kl_1 _) rfl ?_
              refine g_iload_n (n := 2) rfl rfl ?_
              refine g_iadd rfl ?_
              have h14 : 0 ≤ m.2.1 2 (m.1 5 + 2) ∧ m.2.1 2 (m.1 5 + 2) ≤ 255 := hm.2 2 (m.1 5 + 2) (by omega) (show (m.1 5 + 2) < (200 : Int) by omega)
              refine g_iald (f := m.2.1 2) rfl (kl_2 _) (by decide) (by omega) (by omega) ?_
              refine g_icmp_eq (by decide) (by decide) (by omega) (by omega) rfl ?_ ?_
              · intro kk15
                refine g_iincE (z := 3) (by decide) (n := 2) (lo' := [(0, vR 1), (1, vE 8)]) rfl rfl rfl ?_
                refine g_goto rfl ?_
                refine g_iload_n (n := 2) rfl rfl ?_
                refine g_aload_n (n := 1) rfl rfl ?_
                refine g_slen (k := 6) (n := 4) (x := 4) rfl rfl rfl rfl (by decide) (by omega) (by omega) (Nat.le_of_ble_eq_true rfl) ?_
                refine g_icmp_ge (by decide) (by decide) (by decide) (by decide) rfl ?_ ?_
                · intro kk16
                  exfalso; omega
                · intro kk17
                  refine g_aload_n (n := 1) rfl rfl ?_
                  refine g_iload_n (n := 2) rfl rfl ?_
                  refine g_chr (k := 6) (j := 3) (idx := 117) (ch := 108) (by decide) (by decide) (by decide +kernel) (by omega) (by omega) (by decide +kernel) (show decode cX6_isHere 30 = .ok (.invokevirtual 117, 3) by decide +kernel) (Nat.le_of_ble_eq_true rfl) ?_
                  refine g_aload_n (n := 0) rfl rfl ?_
                  refine g_getf (v := vR 2) rfl (kl_1 _) rfl ?_
                  refine g_aload_n (n := 0) rfl rfl ?_
                  refine g_getf (v := vI (m.1 5)) rfl (kl_1 _) rfl ?_
                  refine g_iload_n (n := 2) rfl rfl ?_
                  refine g_iadd rfl ?_
                  have h18 : 0 ≤ m.2.1 2 (m.1 5 + 3) ∧ m.2.1 2 (m.1 5 + 3) ≤ 255 := hm.2 2 (m.1 5 + 3) (by omega) (show (m.1 5 + 3) < (200 : Int) by omega)
                  refine g_iald (f := m.2.1 2) rfl (kl_2 _) (by decide) (by omega) (by omega) ?_
                  refine g_icmp_eq (by decide) (by decide) (by omega) (by omega) rfl ?_ ?_
                  · intro kk19
                    refine g_iincE (z := 4) (by decide) (n := 2) (lo' := [(0, vR 1), (1, vE 8)]) rfl rfl rfl ?_
                    refine g_goto rfl ?_
                    refine g_iload_n (n := 2) rfl rfl ?_
                    refine g_aload_n (n := 1) rfl rfl ?_
                    refine g_slen (k := 6) (n := 4) (x := 4) rfl rfl rfl rfl (by decide) (by omega) (by omega) (Nat.le_of_ble_eq_true rfl) ?_
                    refine g_icmp_ge (by decide) (by decide) (by decide) (by decide) rfl ?_ ?_
                    · intro kk20
                      refine g_iconst rfl ?_
                      refine g_zret rfl rfl (by omega) ?_
                      exact ⟨_, _, rfl, rfl, Or.inl ⟨rfl, by unfold wd6; omega⟩⟩
                    · intro kk21
                      exfalso; omega
                  · intro kk22
                    refine g_iconst rfl ?_
                    refine g_zret rfl rfl (by omega) ?_
                    exact ⟨_, _, rfl, rfl, Or.inr ⟨rfl, by unfold wd6; omega⟩⟩
              · intro kk23
                refine g_iconst rfl ?_
                refine g_zret rfl rfl (by omega) ?_
                exact ⟨_, _, rfl, rfl, Or.inr ⟨rfl, by unfold wd6; omega⟩⟩
          · intro kk24
            refine g_iconst rfl ?_
            refine g_zret rfl rfl (by omega) ?_
            exact ⟨_, _, rfl, rfl, Or.inr ⟨rfl, by unfold wd6; omega⟩⟩
      · intro kk25
        refine g_iconst rfl ?_
        refine g_zret rfl rfl (by omega) ?_
        exact ⟨_, _, rfl, rfl, Or.inr ⟨rfl, by unfold wd6; omega⟩⟩
  · intro kk26
    refine g_iconst rfl ?_
    refine g_zret rfl rfl (by omega) ?_
    exact ⟨_, _, rfl, rfl, Or.inr ⟨rfl, by unfold wd6; omega⟩⟩
theorem c_wordOf_7 {V : cg_V} {d q : Nat} (hd : 0 ≤ d) (hq : 0 ≤ q) {m : kM} (hm : kI m) : cg_S V d q mX6_wordOf [vI 7] (kl m) (R_A (fun a m' => m = m' ∧ a = .inr 9)) := by
  refine cg_of (List.mem_of_getElem? (show ae_MT[69]? = some mX6_wordOf from rfl)) (Nat.le_of_ble_eq_true rfl) ?_
  show cg_G V mX6_wordOf d q _ 0 [(0, vI 7)] [] (kl m) 0 0
  refine g_iload_n (n := 0) rfl rfl ?_
  have kk1 : 7 = 7 := by omega
  refine g_tsw_in (tg := 81) (o9 := 80) (by omega) (by omega) rfl (by omega) (by omega) (rfl) (by decide) ?_
  refine g_ldcs rfl rfl rfl ?_
  refine g_aret rfl rfl ?_
  exact ⟨_, _, rfl, rfl, rfl⟩
theorem c_isHere_7 {V : cg_V} {d q : Nat} (hd : 4 ≤ d) (hq : 85 ≤ q) {m : kM} (hm : kI m) : cg_S V d q mX6_isHere [vR 1, vE 9] (kl m) (R_I (fun z m' => (m = m') ∧ ((z = 1 ∧ wd7 (m.2.1 2) (m.1 5) (m.1 6)) ∨ (z = 0 ∧ ¬ wd7 (m.2.1 2) (m.1 5) (m.1 6))))) := by
  refine cg_of (List.mem_of_getElem? (show ae_MT[72]? = some mX6_isHere from rfl)) (Nat.le_of_ble_eq_true rfl) ?_
  show cg_G V mX6_isHere d q _ 0 [(0, vR 1), (1, vE 9)] [] (kl m) 0 0
  have h1 : 0 ≤ m.1 5 ∧ m.1 5 ≤ 200 := hm.1 5
  have h2 : 0 ≤ m.1 6 ∧ m.1 6 ≤ 200 := hm.1 6
  refine g_aload_n (n := 1) rfl rfl ?_
  refine g_slen (k := 7) (n := 7) (x := 7) rfl rfl rfl rfl (by decide) (by omega) (by omega) (Nat.le_of_ble_eq_true rfl) ?_
  refine g_aload_n (n := 0) rfl rfl ?_
  refine g_getf (v := vI (m.1 6)) rfl (kl_1 _) rfl ?_
  refine g_aload_n (n := 0) rfl rfl ?_
  refine g_getf (v := vI (m.1 5)) rfl (kl_1 _) rfl ?_
  refine g_isub rfl ?_
  refine g_icmp_eq (by decide) (by decide) (by omega) (by omega) rfl ?_ ?_
  · intro kk3
    refine g_iconst rfl ?_
    refine g_istore_n (n := 2) (lo' := [(0, vR 1), (1, vE 9)]) rfl rfl ?_
    refine g_iload_n (n := 2) rfl rfl ?_
    refine g_aload_n (n := 1) rfl rfl ?_
    refine g_slen (k := 7) (n := 7) (x := 7) rfl rfl rfl rfl (by decide) (by omega) (by omega) (Nat.le_of_ble_eq_true rfl) ?_
    refine g_icmp_ge (by decide) (by decide) (by decide) (by decide) rfl ?_ ?_
    · intro kk4
      exfalso; omega
    · intro kk5
      refine g_aload_n (n := 1) rfl rfl ?_
      refine g_iload_n (n := 2) rfl rfl ?_
      refine g_chr (k := 7) (j := 0) (idx := 117) (ch := 107) (by decide) (by decide) (by decide +kernel) (by omega) (by omega) (by decide +kernel) (show decode cX6_isHere 30 = .ok (.invokevirtual 117, 3) by decide +kernel) (Nat.le_of_ble_eq_true rfl) ?_
      refine g_aload_n (n := 0) rfl rfl ?_
      refine g_getf (v := vR 2) rfl (kl_1 _) rfl ?_
      refine g_aload_n (n := 0) rfl rfl ?_
      refine g_getf (v := vI (m.1 5)) rfl (kl_1 _) rfl ?_
      refine g_iload_n (n := 2) rfl rfl ?_
      refine g_iaddE (z := m.1 5) (by omega) rfl ?_
      have h6 : 0 ≤ m.2.1 2 (m.1 5) ∧ m.2.1 2 (m.1 5) ≤ 255 := hm.2 2 (m.1 5) (by omega) (show m.1 5 < (200 : Int) by omega)
      refine g_iald (f := m.2.1 2) rfl (kl_2 _) (by decide) (by omega) (by omega) ?_
      refine g_icmp_eq (by decide) (by decide) (by omega) (by omega) rfl ?_ ?_
      · intro kk7
        refine g_iincE (z := 1) (by decide) (n := 2) (lo' := [(0, vR 1), (1, vE 9)]) rfl rfl rfl ?_
        refine g_goto rfl ?_
        refine g_iload_n (n := 2) rfl rfl ?_
        refine g_aload_n (n := 1) rfl rfl ?_
        refine g_slen (k := 7) (n := 7) (x := 7) rfl rfl rfl rfl (by decide) (by omega) (by omega) (Nat.le_of_ble_eq_true rfl) ?_
        refine g_icmp_ge (by decide) (by decide) (by decide) (by decide) rfl ?_ ?_
        · intro kk8
          exfalso; omega
        · intro kk9
          refine g_aload_n (n := 1) rfl rfl ?_
          refine g_iload_n (n := 2) rfl rfl ?_
          refine g_chr (k := 7) (j := 1) (idx := 117) (ch := 105) (by decide) (by decide) (by decide +kernel) (by omega) (by omega) (by decide +kernel) (show decode cX6_isHere 30 = .ok (.invokevirtual 117, 3) by decide +kernel) (Nat.le_of_ble_eq_true rfl) ?_
          refine g_aload_n (n := 0) rfl rfl ?_
          refine g_getf (v := vR 2) rfl (kl_1 _) rfl ?_
          refine g_aload_n (n := 0) rfl rfl ?_
          refine g_getf (v := vI (m.1 5)) rfl (kl_1 _) rfl ?_
          refine g_iload_n (n := 2) rfl rfl ?_
          refine g_iadd rfl ?_
          have h10 : 0 ≤ m.2.1 2 (m.1 5 + 1) ∧ m.2.1 2 (m.1 5 + 1) ≤ 255 := hm.2 2 (m.1 5 + 1) (by omega) (show (m.1 5 + 1) < (200 : Int) by omega)
          refine g_iald (f := m.2.1 2) rfl (kl_2 _) (by decide) (by omega) (by omega) ?_
          refine g_icmp_eq (by decide) (by decide) (by omega) (by omega) rfl ?_ ?_
          · intro kk11
            refine g_iincE (z := 2) (by decide) (n := 2) (lo' := [(0, vR 1), (1, vE 9)]) rfl rfl rfl ?_
            refine g_goto rfl ?_
            refine g_iload_n (n := 2) rfl rfl ?_
            refine g_aload_n (n := 1) rfl rfl ?_
            refine g_slen (k := 7) (n := 7) (x := 7) rfl rfl rfl rfl (by decide) (by omega) (by omega) (Nat.le_of_ble_eq_true rfl) ?_
            refine g_icmp_ge (by decide) (by decide) (by decide) (by decide) rfl ?_ ?_
            · intro kk12
              exfalso; omega
            · intro kk13
              refine g_aload_n (n := 1) rfl rfl ?_
              refine g_iload_n (n := 2) rfl rfl ?_
              refine g_chr (k := 7) (j := 2) (idx := 117) (ch := 116) (by decide) (by decide) (by decide +kernel) (by omega) (by omega) (by decide +kernel) (show decode cX6_isHere 30 = .ok (.invokevirtual 117, 3) by decide +kernel) (Nat.le_of_ble_eq_true rfl) ?_
              refine g_aload_n (n := 0) rfl rfl ?_
              refine g_getf (v := vR 2) rfl (kl_1 _) rfl ?_
              refine g_aload_n (n := 0) rfl rfl ?_
              refine g_getf (v := vI (m.1 5)) rfl (kl_1 _) rfl ?_
              refine g_iload_n (n := 2) rfl rfl ?_
              refine g_iadd rfl ?_
              have h14 : 0 ≤ m.2.1 2 (m.1 5 + 2) ∧ m.2.1 2 (m.1 5 + 2) ≤ 255 := hm.2 2 (m.1 5 + 2) (by omega) (show (m.1 5 + 2) < (200 : Int) by omega)
              refine g_iald (f := m.2.1 2) rfl (kl_2 _) (by decide) (by omega) (by omega) ?_
              refine g_icmp_eq (by decide) (by decide) (by omega) (by omega) rfl ?_ ?_
              · intro kk15
                refine g_iincE (z := 3) (by decide) (n := 2) (lo' := [(0, vR 1), (1, vE 9)]) rfl rfl rfl ?_
                refine g_goto rfl ?_
                refine g_iload_n (n := 2) rfl rfl ?_
                refine g_aload_n (n := 1) rfl rfl ?_
                refine g_slen (k := 7) (n := 7) (x := 7) rfl rfl rfl rfl (by decide) (by omega) (by omega) (Nat.le_of_ble_eq_true rfl) ?_
                refine g_icmp_ge (by decide) (by decide) (by decide) (by decide) rfl ?_ ?_
                · intro kk16
                  exfalso; omega
                · intro kk17
                  refine g_aload_n (n := 1) rfl rfl ?_
                  refine g_iload_n (n := 2) rfl rfl ?_
                  refine g_chr (k := 7) (j := 3) (idx := 117) (ch := 99) (by decide) (by decide) (by decide +kernel) (by omega) (by omega) (by decide +kernel) (show decode cX6_isHere 30 = .ok (.invokevirtual 117, 3) by decide +kernel) (Nat.le_of_ble_eq_true rfl) ?_
                  refine g_aload_n (n := 0) rfl rfl ?_
                  refine g_getf (v := vR 2) rfl (kl_1 _) rfl ?_
                  refine g_aload_n (n := 0) rfl rfl ?_
                  refine g_getf (v := vI (m.1 5)) rfl (kl_1 _) rfl ?_
                  refine g_iload_n (n := 2) rfl rfl ?_
                  refine g_iadd rfl ?_
                  have h18 : 0 ≤ m.2.1 2 (m.1 5 + 3) ∧ m.2.1 2 (m.1 5 + 3) ≤ 255 := hm.2 2 (m.1 5 + 3) (by omega) (show (m.1 5 + 3) < (200 : Int) by omega)
                  refine g_iald (f := m.2.1 2) rfl (kl_2 _) (by decide) (by omega) (by omega) ?_
                  refine g_icmp_eq (by decide) (by decide) (by omega) (by omega) rfl ?_ ?_
                  · intro kk19
                    refine g_iincE (z := 4) (by decide) (n := 2) (lo' := [(0, vR 1), (1, vE 9)]) rfl rfl rfl ?_
                    refine g_goto rfl ?_
                    refine g_iload_n (n := 2) rfl rfl ?_
                    refine g_aload_n (n := 1) rfl rfl ?_
                    refine g_slen (k := 7) (n := 7) (x := 7) rfl rfl rfl rfl (by decide) (by omega) (by omega) (Nat.le_of_ble_eq_true rfl) ?_
                    refine g_icmp_ge (by decide) (by decide) (by decide) (by decide) rfl ?_ ?_
                    · intro kk20
                      exfalso; omega
                    · intro kk21
                      refine g_aload_n (n := 1) rfl rfl ?_
                      refine g_iload_n (n := 2) rfl rfl ?_
                      refine g_chr (k := 7) (j := 4) (idx := 117) (ch := 104) (by decide) (by decide) (by decide +kernel) (by omega) (by omega) (by decide +kernel) (show decode cX6_isHere 30 = .ok (.invokevirtual 117, 3) by decide +kernel) (Nat.le_of_ble_eq_true rfl) ?_
                      refine g_aload_n (n := 0) rfl rfl ?_
                      refine g_getf (v := vR 2) rfl (kl_1 _) rfl ?_
                      refine g_aload_n (n := 0) rfl rfl ?_
                      refine g_getf (v := vI (m.1 5)) rfl (kl_1 _) rfl ?_
                      refine g_iload_n (n := 2) rfl rfl ?_
                      refine g_iadd rfl ?_
                      have h22 : 0 ≤ m.2.1 2 (m.1 5 + 4) ∧ m.2.1 2 (m.1 5 + 4) ≤ 255 := hm.2 2 (m.1 5 + 4) (by omega) (show (m.1 5 + 4) < (200 : Int) by omega)
                      refine g_iald (f := m.2.1 2) rfl (kl_2 _) (by decide) (by omega) (by omega) ?_
                      refine g_icmp_eq (by decide) (by decide) (by omega) (by omega) rfl ?_ ?_
                      · intro kk23
                        refine g_iincE (z := 5) (by decide) (n := 2) (lo' := [(0, vR 1), (1, vE 9)]) rfl rfl rfl ?_
                        refine g_goto rfl ?_
                        refine g_iload_n (n := 2) rfl rfl ?_
                        refine g_aload_n (n := 1) rfl rfl ?_
                        refine g_slen (k := 7) (n := 7) (x := 7) rfl rfl rfl rfl (by decide) (by omega) (by omega) (Nat.le_of_ble_eq_true rfl) ?_
                        refine g_icmp_ge (by decide) (by decide) (by decide) (by decide) rfl ?_ ?_
                        · intro kk24
                          exfalso; omega
                        · intro kk25
                          refine g_aload_n (n := 1) rfl rfl ?_
                          refine g_iload_n (n := 2) rfl rfl ?_
                          refine g_chr (k := 7) (j := 5) (idx := 117) (ch := 101) (by decide) (by decide) (by decide +kernel) (by omega) (by omega) (by decide +kernel) (show decode cX6_isHere 30 = .ok (.invokevirtual 117, 3) by decide +kernel) (Nat.le_of_ble_eq_true rfl) ?_
                          refine g_aload_n (n := 0) rfl rfl ?_
                          refine g_getf (v := vR 2) rfl (kl_1 _) rfl ?_
                          refine g_aload_n (n := 0) rfl rfl ?_
                          refine g_getf (v := vI (m.1 5)) rfl (kl_1 _) rfl ?_
                          refine g_iload_n (n := 2) rfl rfl ?_
                          refine g_iadd rfl ?_
                          have h26 : 0 ≤ m.2.1 2 (m.1 5 + 5) ∧ m.2.1 2 (m.1 5 + 5) ≤ 255 := hm.2 2 (m.1 5 + 5) (by omega) (show (m.1 5 + 5) < (200 : Int) by omega)
                          refine g_iald (f := m.2.1 2) rfl (kl_2 _) (by decide) (by omega) (by omega) ?_
                          refine g_icmp_eq (by decide) (by decide) (by omega) (by omega) rfl ?_ ?_
                          · intro kk27
                            refine g_iincE (z := 6) (by decide) (n := 2) (lo' := [(0, vR 1), (1, vE 9)]) rfl rfl rfl ?_
                            refine g_goto rfl ?_
                            refine g_iload_n (n := 2) rfl rfl ?_
                            refine g_aload_n (n := 1) rfl rfl ?_
                            refine g_slen (k := 7) (n := 7) (x := 7) rfl rfl rfl rfl (by decide) (by omega) (by omega) (Nat.le_of_ble_eq_true rfl) ?_
                            refine g_icmp_ge (by decide) (by decide) (by decide) (by decide) rfl ?_ ?_
                            · intro kk28
                              exfalso; omega
                            · intro kk29
                              refine g_aload_n (n := 1) rfl rfl ?_
                              refine g_iload_n (n := 2) rfl rfl ?_
                              refine g_chr (k := 7) (j := 6) (idx := 117) (ch := 110) (by decide) (by decide) (by decide +kernel) (by omega) (by omega) (by decide +kernel) (show decode cX6_isHere 30 = .ok (.invokevirtual 117, 3) by decide +kernel) (Nat.le_of_ble_eq_true rfl) ?_
                              refine g_aload_n (n := 0) rfl rfl ?_
                              refine g_getf (v := vR 2) rfl (kl_1 _) rfl ?_
                              refine g_aload_n (n := 0) rfl rfl ?_
                              refine g_getf (v := vI (m.1 5)) rfl (kl_1 _) rfl ?_
                              refine g_iload_n (n := 2) rfl rfl ?_
                              refine g_iadd rfl ?_
                              have h30 : 0 ≤ m.2.1 2 (m.1 5 + 6) ∧ m.2.1 2 (m.1 5 + 6) ≤ 255 := hm.2 2 (m.1 5 + 6) (by omega) (show (m.1 5 + 6) < (200 : Int) by omega)
                              refine g_iald (f := m.2.1 2) rfl (kl_2 _) (by decide) (by omega) (by omega) ?_
                              refine g_icmp_eq (by decide) (by decide) (by omega) (by omega) rfl ?_ ?_
                              · intro kk31
                                refine g_iincE (z := 7) (by decide) (n := 2) (lo' := [(0, vR 1), (1, vE 9)]) rfl rfl rfl ?_
                                refine g_goto rfl ?_
                                refine g_iload_n (n := 2) rfl rfl ?_
                                refine g_aload_n (n := 1) rfl rfl ?_
                                refine g_slen (k := 7) (n := 7) (x := 7) rfl rfl rfl rfl (by decide) (by omega) (by omega) (Nat.le_of_ble_eq_true rfl) ?_
                                refine g_icmp_ge (by decide) (by decide) (by decide) (by decide) rfl ?_ ?_
                                · intro kk32
                                  refine g_iconst rfl ?_
                                  refine g_zret rfl rfl (by omega) ?_
                                  exact ⟨_, _, rfl, rfl, Or.inl ⟨rfl, by unfold wd7; omega⟩⟩
                                · intro kk33
                                  exfalso; omega
                              · intro kk34
                                refine g_iconst rfl ?_
                                refine g_zret rfl rfl (by omega) ?_
                                exact ⟨_, _, rfl, rfl, Or.inr ⟨rfl, by unfold wd7; omega⟩⟩
                          · intro kk35
                            refine g_iconst rfl ?_
                            refine g_zret rfl rfl (by omega) ?_
                            exact ⟨_, _, rfl, rfl, Or.inr ⟨rfl, by unfold wd7; omega⟩⟩
                      · intro kk36
                        refine g_iconst rfl ?_
                        refine g_zret rfl rfl (by omega) ?_
                        exact ⟨_, _, rfl, rfl, Or.inr ⟨rfl, by unfold wd7; omega⟩⟩
                  · intro kk37
                    refine g_iconst rfl ?_
                    refine g_zret rfl rfl (by omega) ?_
                    exact ⟨_, _, rfl, rfl, Or.inr ⟨rfl, by unfold wd7; omega⟩⟩
              · intro kk38
                refine g_iconst rfl ?_
                refine g_zret rfl rfl (by omega) ?_
                exact ⟨_, _, rfl, rfl, Or.inr ⟨rfl, by unfold wd7; omega⟩⟩
          · intro kk39
            refine g_iconst rfl ?_
            refine g_zret rfl rfl (by omega) ?_
            exact ⟨_, _, rfl, rfl, Or.inr ⟨rfl, by unfold wd7; omega⟩⟩
      · intro kk40
        refine g_iconst rfl ?_
        refine g_zret rfl rfl (by omega) ?_
        exact ⟨_, _, rfl, rfl, Or.inr ⟨rfl, by unfold wd7; omega⟩⟩
  · intro kk41
    refine g_iconst rfl ?_
    refine g_zret rfl rfl (by omega) ?_
    exact ⟨_, _, rfl, rfl, Or.inr ⟨rfl, by unfold wd7; omega⟩⟩
theorem c_wordOf_8 {V : cg_V} {d q : Nat} (hd : 0 ≤ d) (hq : 0 ≤ q) {m : kM} (hm : kI m) : cg_S V d q mX6_wordOf [vI 8] (kl m) (R_A (fun a m' => m = m' ∧ a = .inr 10)) := by
  refine cg_of (List.mem_of_getElem? (show ae_MT[69]? = some mX6_wordOf from rfl)) (Nat.le_of_ble_eq_true rfl) ?_
  show cg_G V mX6_wordOf d q _ 0 [(0, vI 8)] [] (kl m) 0 0
  refine g_iload_n (n := 0) rfl rfl ?_
  have kk1 : 8 = 8 := by omega
  refine g_tsw_in (tg := 84) (o9 := 83) (by omega) (by omega) rfl (by omega) (by omega) (rfl) (by decide) ?_
  refine g_ldcs rfl rfl rfl ?_
  refine g_aret rfl rfl ?_
  exact ⟨_, _, rfl, rfl, rfl⟩
theorem c_isHere_8 {V : cg_V} {d q : Nat} (hd : 4 ≤ d) (hq : 85 ≤ q) {m : kM} (hm : kI m) : cg_S V d q mX6_isHere [vR 1, vE 10] (kl m) (R_I (fun z m' => (m = m') ∧ ((z = 1 ∧ wd8 (m.2.1 2) (m.1 5) (m.1 6)) ∨ (z = 0 ∧ ¬ wd8 (m.2.1 2) (m.1 5) (m.1 6))))) := by
  refine cg_of (List.mem_of_getElem? (show ae_MT[72]? = some mX6_isHere from rfl)) (Nat.le_of_ble_eq_true rfl) ?_
  show cg_G V mX6_isHere d q _ 0 [(0, vR 1), (1, vE 10)] [] (kl m) 0 0
  have h1 : 0 ≤ m.1 5 ∧ m.1 5 ≤ 200 := hm.1 5
  have h2 : 0 ≤ m.1 6 ∧ m.1 6 ≤ 200 := hm.1 6
  refine g_aload_n (n := 1) rfl rfl ?_
  refine g_slen (k := 8) (n := 6) (x := 6) rfl rfl rfl rfl (by decide) (by omega) (by omega) (Nat.le_of_ble_eq_true rfl) ?_
  refine g_aload_n (n := 0) rfl rfl ?_
  refine g_getf (v := vI (m.1 6)) rfl (kl_1 _) rfl ?_
  refine g_aload_n (n := 0) rfl rfl ?_
  refine g_getf (v := vI (m.1 5)) rfl (kl_1 _) rfl ?_
  refine g_isub rfl ?_
  refine g_icmp_eq (by decide) (by decide) (by omega) (by omega) rfl ?_ ?_
  · intro kk3
    refine g_iconst rfl ?_
    refine g_istore_n (n := 2) (lo' := [(0, vR 1), (1, vE 10)]) rfl rfl ?_
    refine g_iload_n (n := 2) rfl rfl ?_
    refine g_aload_n (n := 1) rfl rfl ?_
    refine g_slen (k := 8) (n := 6) (x := 6) rfl rfl rfl rfl (by decide) (by omega) (by omega) (Nat.le_of_ble_eq_true rfl) ?_
    refine g_icmp_ge (by decide) (by decide) (by decide) (by decide) rfl ?_ ?_
    · intro kk4
      exfalso; omega
    · intro kk5
      refine g_aload_n (n := 1) rfl rfl ?_
      refine g_iload_n (n := 2) rfl rfl ?_
      refine g_chr (k := 8) (j := 0) (idx := 117) (ch := 104) (by decide) (by decide) (by decide +kernel) (by omega) (by omega) (by decide +kernel) (show decode cX6_isHere 30 = .ok (.invokevirtual 117, 3) by decide +kernel) (Nat.le_of_ble_eq_true rfl) ?_
      refine g_aload_n (n := 0) rfl rfl ?_
      refine g_getf (v := vR 2) rfl (kl_1 _) rfl ?_
      refine g_aload_n (n := 0) rfl rfl ?_
      refine g_getf (v := vI (m.1 5)) rfl (kl_1 _) rfl ?_
      refine g_iload_n (n := 2) rfl rfl ?_
      refine g_iaddE (z := m.1 5) (by omega) rfl ?_
      have h6 : 0 ≤ m.2.1 2 (m.1 5) ∧ m.2.1 2 (m.1 5) ≤ 255 := hm.2 2 (m.1 5) (by omega) (show m.1 5 < (200 : Int) by omega)
      refine g_iald (f := m.2.1 2) rfl (kl_2 _) (by decide) (by omega) (by omega) ?_
      refine g_icmp_eq (by decide) (by decide) (by omega) (by omega) rfl ?_ ?_
      · intro kk7
        refine g_iincE (z := 1) (by decide) (n := 2) (lo' := [(0, vR 1), (1, vE 10)]) rfl rfl rfl ?_
        refine g_goto rfl ?_
        refine g_iload_n (n := 2) rfl rfl ?_
        refine g_aload_n (n := 1) rfl rfl ?_
        refine g_slen (k := 8) (n := 6) (x := 6) rfl rfl rfl rfl (by decide) (by omega) (by omega) (Nat.le_of_ble_eq_true rfl) ?_
        refine g_icmp_ge (by decide) (by decide) (by decide) (by decide) rfl ?_ ?_
        · intro kk8
          exfalso; omega
        · intro kk9
          refine g_aload_n (n := 1) rfl rfl ?_
          refine g_iload_n (n := 2) rfl rfl ?_
          refine g_chr (k := 8) (j := 1) (idx := 117) (ch := 117) (by decide) (by decide) (by decide +kernel) (by omega) (by omega) (by decide +kernel) (show decode cX6_isHere 30 = .ok (.invokevirtual 117, 3) by decide +kernel) (Nat.le_of_ble_eq_true rfl) ?_
          refine g_aload_n (n := 0) rfl rfl ?_
          refine g_getf (v := vR 2) rfl (kl_1 _) rfl ?_
          refine g_aload_n (n := 0) rfl rfl ?_
          refine g_getf (v := vI (m.1 5)) rfl (kl_1 _) rfl ?_
          refine g_iload_n (n := 2) rfl rfl ?_
          refine g_iadd rfl ?_
          have h10 : 0 ≤ m.2.1 2 (m.1 5 + 1) ∧ m.2.1 2 (m.1 5 + 1) ≤ 255 := hm.2 2 (m.1 5 + 1) (by omega) (show (m.1 5 + 1) < (200 : Int) by omega)
          refine g_iald (f := m.2.1 2) rfl (kl_2 _) (by decide) (by omega) (by omega) ?_
          refine g_icmp_eq (by decide) (by decide) (by omega) (by omega) rfl ?_ ?_
          · intro kk11
            refine g_iincE (z := 2) (by decide) (n := 2) (lo' := [(0, vR 1), (1, vE 10)]) rfl rfl rfl ?_
            refine g_goto rfl ?_
            refine g_iload_n (n := 2) rfl rfl ?_
            refine g_aload_n (n := 1) rfl rfl ?_
            refine g_slen (k := 8) (n := 6) (x := 6) rfl rfl rfl rfl (by decide) (by omega) (by omega) (Nat.le_of_ble_eq_true rfl) ?_
            refine g_icmp_ge (by decide) (by decide) (by decide) (by decide) rfl ?_ ?_
            · intro kk12
              exfalso; omega
            · intro kk13
              refine g_aload_n (n := 1) rfl rfl ?_
              refine g_iload_n (n := 2) rfl rfl ?_
              refine g_chr (k := 8) (j := 2) (idx := 117) (ch := 110) (by decide) (by decide) (by decide +kernel) (by omega) (by omega) (by decide +kernel) (show decode cX6_isHere 30 = .ok (.invokevirtual 117, 3) by decide +kernel) (Nat.le_of_ble_eq_true rfl) ?_
              refine g_aload_n (n := 0) rfl rfl ?_
              refine g_getf (v := vR 2) rfl (kl_1 _) rfl ?_
              refine g_aload_n (n := 0) rfl rfl ?_
              refine g_getf (v := vI (m.1 5)) rfl (kl_1 _) rfl ?_
              refine g_iload_n (n := 2) rfl rfl ?_
              refine g_iadd rfl ?_
              have h14 : 0 ≤ m.2.1 2 (m.1 5 + 2) ∧ m.2.1 2 (m.1 5 + 2) ≤ 255 := hm.2 2 (m.1 5 + 2) (by omega) (show (m.1 5 + 2) < (200 : Int) by omega)
              refine g_iald (f := m.2.1 2) rfl (kl_2 _) (by decide) (by omega) (by omega) ?_
              refine g_icmp_eq (by decide) (by decide) (by omega) (by omega) rfl ?_ ?_
              · intro kk15
                refine g_iincE (z := 3) (by decide) (n := 2) (lo' := [(0, vR 1), (1, vE 10)]) rfl rfl rfl ?_
                refine g_goto rfl ?_
                refine g_iload_n (n := 2) rfl rfl ?_
                refine g_aload_n (n := 1) rfl rfl ?_
                refine g_slen (k := 8) (n := 6) (x := 6) rfl rfl rfl rfl (by decide) (by omega) (by omega) (Nat.le_of_ble_eq_true rfl) ?_
                refine g_icmp_ge (by decide) (by decide) (by decide) (by decide) rfl ?_ ?_
                · intro kk16
                  exfalso; omega
                · intro kk17
                  refine g_aload_n (n := 1) rfl rfl ?_
                  refine g_iload_n (n := 2) rfl rfl ?_
                  refine g_chr (k := 8) (j := 3) (idx := 117) (ch := 103) (by decide) (by decide) (by decide +kernel) (by omega) (by omega) (by decide +kernel) (show decode cX6_isHere 30 = .ok (.invokevirtual 117, 3) by decide +kernel) (Nat.le_of_ble_eq_true rfl) ?_
                  refine g_aload_n (n := 0) rfl rfl ?_
                  refine g_getf (v := vR 2) rfl (kl_1 _) rfl ?_
                  refine g_aload_n (n := 0) rfl rfl ?_
                  refine g_getf (v := vI (m.1 5)) rfl (kl_1 _) rfl ?_
                  refine g_iload_n (n := 2) rfl rfl ?_
                  refine g_iadd rfl ?_
                  have h18 : 0 ≤ m.2.1 2 (m.1 5 + 3) ∧ m.2.1 2 (m.1 5 + 3) ≤ 255 := hm.2 2 (m.1 5 + 3) (by omega) (show (m.1 5 + 3) < (200 : Int) by omega)
                  refine g_iald (f := m.2.1 2) rfl (kl_2 _) (by decide) (by omega) (by omega) ?_
                  refine g_icmp_eq (by decide) (by decide) (by omega) (by omega) rfl ?_ ?_
                  · intro kk19
                    refine g_iincE (z := 4) (by decide) (n := 2) (lo' := [(0, vR 1), (1, vE 10)]) rfl rfl rfl ?_
                    refine g_goto rfl ?_
                    refine g_iload_n (n := 2) rfl rfl ?_
                    refine g_aload_n (n := 1) rfl rfl ?_
                    refine g_slen (k := 8) (n := 6) (x := 6) rfl rfl rfl rfl (by decide) (by omega) (by omega) (Nat.le_of_ble_eq_true rfl) ?_
                    refine g_icmp_ge (by decide) (by decide) (by decide) (by decide) rfl ?_ ?_
                    · intro kk20
                      exfalso; omega
                    · intro kk21
                      refine g_aload_n (n := 1) rfl rfl ?_
                      refine g_iload_n (n := 2) rfl rfl ?_
                      refine g_chr (k := 8) (j := 4) (idx := 117) (ch := 114) (by decide) (by decide) (by decide +kernel) (by omega) (by omega) (by decide +kernel) (show decode cX6_isHere 30 = .ok (.invokevirtual 117, 3) by decide +kernel) (Nat.le_of_ble_eq_true rfl) ?_
                      refine g_aload_n (n := 0) rfl rfl ?_
                      refine g_getf (v := vR 2) rfl (kl_1 _) rfl ?_
                      refine g_aload_n (n := 0) rfl rfl ?_
                      refine g_getf (v := vI (m.1 5)) rfl (kl_1 _) rfl ?_
                      refine g_iload_n (n := 2) rfl rfl ?_
                      refine g_iadd rfl ?_
                      have h22 : 0 ≤ m.2.1 2 (m.1 5 + 4) ∧ m.2.1 2 (m.1 5 + 4) ≤ 255 := hm.2 2 (m.1 5 + 4) (by omega) (show (m.1 5 + 4) < (200 : Int) by omega)
                      refine g_iald (f := m.2.1 2) rfl (kl_2 _) (by decide) (by omega) (by omega) ?_
                      refine g_icmp_eq (by decide) (by decide) (by omega) (by omega) rfl ?_ ?_
                      · intro kk23
                        refine g_iincE (z := 5) (by decide) (n := 2) (lo' := [(0, vR 1), (1, vE 10)]) rfl rfl rfl ?_
                        refine g_goto rfl ?_
                        refine g_iload_n (n := 2) rfl rfl ?_
                        refine g_aload_n (n := 1) rfl rfl ?_
                        refine g_slen (k := 8) (n := 6) (x := 6) rfl rfl rfl rfl (by decide) (by omega) (by omega) (Nat.le_of_ble_eq_true rfl) ?_
                        refine g_icmp_ge (by decide) (by decide) (by decide) (by decide) rfl ?_ ?_
                        · intro kk24
                          exfalso; omega
                        · intro kk25
                          refine g_aload_n (n := 1) rfl rfl ?_
                          refine g_iload_n (n := 2) rfl rfl ?_
                          refine g_chr (k := 8) (j := 5) (idx := 117) (ch := 121) (by decide) (by decide) (by decide +kernel) (by omega) (by omega) (by decide +kernel) (show decode cX6_isHere 30 = .ok (.invokevirtual 117, 3) by decide +kernel) (Nat.le_of_ble_eq_true rfl) ?_
                          refine g_aload_n (n := 0) rfl rfl ?_
                          refine g_getf (v := vR 2) rfl (kl_1 _) rfl ?_
                          refine g_aload_n (n := 0) rfl rfl ?_
                          refine g_getf (v := vI (m.1 5)) rfl (kl_1 _) rfl ?_
                          refine g_iload_n (n := 2) rfl rfl ?_
                          refine g_iadd rfl ?_
                          have h26 : 0 ≤ m.2.1 2 (m.1 5 + 5) ∧ m.2.1 2 (m.1 5 + 5) ≤ 255 := hm.2 2 (m.1 5 + 5) (by omega) (show (m.1 5 + 5) < (200 : Int) by omega)
                          refine g_iald (f := m.2.1 2) rfl (kl_2 _) (by decide) (by omega) (by omega) ?_
                          refine g_icmp_eq (by decide) (by decide) (by omega) (by omega) rfl ?_ ?_
                          · intro kk27
                            refine g_iincE (z := 6) (by decide) (n := 2) (lo' := [(0, vR 1), (1, vE 10)]) rfl rfl rfl ?_
                            refine g_goto rfl ?_
                            refine g_iload_n (n := 2) rfl rfl ?_
                            refine g_aload_n (n := 1) rfl rfl ?_
                            refine g_slen (k := 8) (n := 6) (x := 6) rfl rfl rfl rfl (by decide) (by omega) (by omega) (Nat.le_of_ble_eq_true rfl) ?_
                            refine g_icmp_ge (by decide) (by decide) (by decide) (by decide) rfl ?_ ?_
                            · intro kk28
                              refine g_iconst rfl ?_
                              refine g_zret rfl rfl (by omega) ?_
                              exact ⟨_, _, rfl, rfl, Or.inl ⟨rfl, by unfold wd8; omega⟩⟩
                            · intro kk29
                              exfalso; omega
                          · intro kk30
                            refine g_iconst rfl ?_
                            refine g_zret rfl rfl (by omega) ?_
                            exact ⟨_, _, rfl, rfl, Or.inr ⟨rfl, by unfold wd8; omega⟩⟩
                      · intro kk31
                        refine g_iconst rfl ?_
                        refine g_zret rfl rfl (by omega) ?_
                        exact ⟨_, _, rfl, rfl, Or.inr ⟨rfl, by unfold wd8; omega⟩⟩
                  · intro kk32
                    refine g_iconst rfl ?_
                    refine g_zret rfl rfl (by omega) ?_
                    exact ⟨_, _, rfl, rfl, Or.inr ⟨rfl, by unfold wd8; omega⟩⟩
              · intro kk33
                refine g_iconst rfl ?_
                refine g_zret rfl rfl (by omega) ?_
                exact ⟨_, _, rfl, rfl, Or.inr ⟨rfl, by unfold wd8; omega⟩⟩
          · intro kk34
            refine g_iconst rfl ?_
            refine g_zret rfl rfl (by omega) ?_
            exact ⟨_, _, rfl, rfl, Or.inr ⟨rfl, by unfold wd8; omega⟩⟩
      · intro kk35
        refine g_iconst rfl ?_
        refine g_zret rfl rfl (by omega) ?_
        exact ⟨_, _, rfl, rfl, Or.inr ⟨rfl, by unfold wd8; omega⟩⟩
  · intro kk36
    refine g_iconst rfl ?_
    refine g_zret rfl rfl (by omega) ?_
    exact ⟨_, _, rfl, rfl, Or.inr ⟨rfl, by unfold wd8; omega⟩⟩
theorem c_wordOf_9 {V : cg_V} {d q : Nat} (hd : 0 ≤ d) (hq : 0 ≤ q) {m : kM} (hm : kI m) : cg_S V d q mX6_wordOf [vI 9] (kl m) (R_A (fun a m' => m = m' ∧ a = .inr 11)) := by
  refine cg_of (List.mem_of_getElem? (show ae_MT[69]? = some mX6_wordOf from rfl)) (Nat.le_of_ble_eq_true rfl) ?_
  show cg_G V mX6_wordOf d q _ 0 [(0, vI 9)] [] (kl m) 0 0
  refine g_iload_n (n := 0) rfl rfl ?_
  have kk1 : 9 = 9 := by omega
  refine g_tsw_in (tg := 87) (o9 := 86) (by omega) (by omega) rfl (by omega) (by omega) (rfl) (by decide) ?_
  refine g_ldcs rfl rfl rfl ?_
  refine g_aret rfl rfl ?_
  exact ⟨_, _, rfl, rfl, rfl⟩
theorem c_isHere_9 {V : cg_V} {d q : Nat} (hd : 4 ≤ d) (hq : 85 ≤ q) {m : kM} (hm : kI m) : cg_S V d q mX6_isHere [vR 1, vE 11] (kl m) (R_I (fun z m' => (m = m') ∧ ((z = 1 ∧ wd9 (m.2.1 2) (m.1 5) (m.1 6)) ∨ (z = 0 ∧ ¬ wd9 (m.2.1 2) (m.1 5) (m.1 6))))) := by
  refine cg_of (List.mem_of_getElem? (show ae_MT[72]? = some mX6_isHere from rfl)) (Nat.le_of_ble_eq_true rfl) ?_
  show cg_G V mX6_isHere d q _ 0 [(0, vR 1), (1, vE 11)] [] (kl m) 0 0
  have h1 : 0 ≤ m.1 5 ∧ m.1 5 ≤ 200 := hm.1 5
  have h2 : 0 ≤ m.1 6 ∧ m.1 6 ≤ 200 := hm.1 6
  refine g_aload_n (n := 1) rfl rfl ?_
  refine g_slen (k := 9) (n := 4) (x := 4) rfl rfl rfl rfl (by decide) (by omega) (by omega) (Nat.le_of_ble_eq_true rfl) ?_
  refine g_aload_n (n := 0) rfl rfl ?_
  refine g_getf (v := vI (m.1 6)) rfl (kl_1 _) rfl ?_
  refine g_aload_n (n := 0) rfl rfl ?_
  refine g_getf (v := vI (m.1 5)) rfl (kl_1 _) rfl ?_
  refine g_isub rfl ?_
  refine g_icmp_eq (by decide) (by decide) (by omega) (by omega) rfl ?_ ?_
  · intro kk3
    refine g_iconst rfl ?_
    refine g_istore_n (n := 2) (lo' := [(0, vR 1), (1, vE 11)]) rfl rfl ?_
    refine g_iload_n (n := 2) rfl rfl ?_
    refine g_aload_n (n := 1) rfl rfl ?_
    refine g_slen (k := 9) (n := 4) (x := 4) rfl rfl rfl rfl (by decide) (by omega) (by omega) (Nat.le_of_ble_eq_true rfl) ?_
    refine g_icmp_ge (by decide) (by decide) (by decide) (by decide) rfl ?_ ?_
    · intro kk4
      exfalso; omega
    · intro kk5
      refine g_aload_n (n := 1) rfl rfl ?_
      refine g_iload_n (n := 2) rfl rfl ?_
      refine g_chr (k := 9) (j := 0) (idx := 117) (ch := 115) (by decide) (by decide) (by decide +kernel) (by omega) (by omega) (by decide +kernel) (show decode cX6_isHere 30 = .ok (.invokevirtual 117, 3) by decide +kernel) (Nat.le_of_ble_eq_true rfl) ?_
      refine g_aload_n (n := 0) rfl rfl ?_
      refine g_getf (v := vR 2) rfl (kl_1 _) rfl ?_
      refine g_aload_n (n := 0) rfl rfl ?_
      refine g_getf (v := vI (m.1 5)) rfl (kl_1 _) rfl ?_
      refine g_iload_n (n := 2) rfl rfl ?_
      refine g_iaddE (z := m.1 5) (by omega) rfl ?_
      have h6 : 0 ≤ m.2.1 2 (m.1 5) ∧ m.2.1 2 (m.1 5) ≤ 255 := hm.2 2 (m.1 5) (by omega) (show m.1 5 < (200 : Int) by omega)
      refine g_iald (f := m.2.1 2) rfl (kl_2 _) (by decide) (by omega) (by omega) ?_
      refine g_icmp_eq (by decide) (by decide) (by omega) (by omega) rfl ?_ ?_
      · intro kk7
        refine g_iincE (z := 1) (by decide) (n := 2) (lo' := [(0, vR 1), (1, vE 11)]) rfl rfl rfl ?_
        refine g_goto rfl ?_
        refine g_iload_n (n := 2) rfl rfl ?_
        refine g_aload_n (n := 1) rfl rfl ?_
        refine g_slen (k := 9) (n := 4) (x := 4) rfl rfl rfl rfl (by decide) (by omega) (by omega) (Nat.le_of_ble_eq_true rfl) ?_
        refine g_icmp_ge (by decide) (by decide) (by decide) (by decide) rfl ?_ ?_
        · intro kk8
          exfalso; omega
        · intro kk9
          refine g_aload_n (n := 1) rfl rfl ?_
          refine g_iload_n (n := 2) rfl rfl ?_
          refine g_chr (k := 9) (j := 1) (idx := 117) (ch := 111) (by decide) (by decide) (by decide +kernel) (by omega) (by omega) (by decide +kernel) (show decode cX6_isHere 30 = .ok (.invokevirtual 117, 3) by decide +kernel) (Nat.le_of_ble_eq_true rfl) ?_
          refine g_aload_n (n := 0) rfl rfl ?_
          refine g_getf (v := vR 2) rfl (kl_1 _) rfl ?_
          refine g_aload_n (n := 0) rfl rfl ?_
          refine g_getf (v := vI (m.1 5)) rfl (kl_1 _) rfl ?_
          refine g_iload_n (n := 2) rfl rfl ?_
          refine g_iadd rfl ?_
          have h10 : 0 ≤ m.2.1 2 (m.1 5 + 1) ∧ m.2.1 2 (m.1 5 + 1) ≤ 255 := hm.2 2 (m.1 5 + 1) (by omega) (show (m.1 5 + 1) < (200 : Int) by omega)
          refine g_iald (f := m.2.1 2) rfl (kl_2 _) (by decide) (by omega) (by omega) ?_
          refine g_icmp_eq (by decide) (by decide) (by omega) (by omega) rfl ?_ ?_
          · intro kk11
            refine g_iincE (z := 2) (by decide) (n := 2) (lo' := [(0, vR 1), (1, vE 11)]) rfl rfl rfl ?_
            refine g_goto rfl ?_
            refine g_iload_n (n := 2) rfl rfl ?_
            refine g_aload_n (n := 1) rfl rfl ?_
            refine g_slen (k := 9) (n := 4) (x := 4) rfl rfl rfl rfl (by decide) (by omega) (by omega) (Nat.le_of_ble_eq_true rfl) ?_
            refine g_icmp_ge (by decide) (by decide) (by decide) (by decide) rfl ?_ ?_
            · intro kk12
              exfalso; omega
            · intro kk13
              refine g_aload_n (n := 1) rfl rfl ?_
              refine g_iload_n (n := 2) rfl rfl ?_
              refine g_chr (k := 9) (j := 2) (idx := 117) (ch := 97) (by decide) (by decide) (by decide +kernel) (by omega) (by omega) (by decide +kernel) (show decode cX6_isHere 30 = .ok (.invokevirtual 117, 3) by decide +kernel) (Nat.le_of_ble_eq_true rfl) ?_
              refine g_aload_n (n := 0) rfl rfl ?_
              refine g_getf (v := vR 2) rfl (kl_1 _) rfl ?_
              refine g_aload_n (n := 0) rfl rfl ?_
              refine g_getf (v := vI (m.1 5)) rfl (kl_1 _) rfl ?_
              refine g_iload_n (n := 2) rfl rfl ?_
              refine g_iadd rfl ?_
              have h14 : 0 ≤ m.2.1 2 (m.1 5 + 2) ∧ m.2.1 2 (m.1 5 + 2) ≤ 255 := hm.2 2 (m.1 5 + 2) (by omega) (show (m.1 5 + 2) < (200 : Int) by omega)
              refine g_iald (f := m.2.1 2) rfl (kl_2 _) (by decide) (by omega) (by omega) ?_
              refine g_icmp_eq (by decide) (by decide) (by omega) (by omega) rfl ?_ ?_
              · intro kk15
                refine g_iincE (z := 3) (by decide) (n := 2) (lo' := [(0, vR 1), (1, vE 11)]) rfl rfl rfl ?_
                refine g_goto rfl ?_
                refine g_iload_n (n := 2) rfl rfl ?_
                refine g_aload_n (n := 1) rfl rfl ?_
                refine g_slen (k := 9) (n := 4) (x := 4) rfl rfl rfl rfl (by decide) (by omega) (by omega) (Nat.le_of_ble_eq_true rfl) ?_
                refine g_icmp_ge (by decide) (by decide) (by decide) (by decide) rfl ?_ ?_
                · intro kk16
                  exfalso; omega
                · intro kk17
                  refine g_aload_n (n := 1) rfl rfl ?_
                  refine g_iload_n (n := 2) rfl rfl ?_
                  refine g_chr (k := 9) (j := 3) (idx := 117) (ch := 112) (by decide) (by decide) (by decide +kernel) (by omega) (by omega) (by decide +kernel) (show decode cX6_isHere 30 = .ok (.invokevirtual 117, 3) by decide +kernel) (Nat.le_of_ble_eq_true rfl) ?_
                  refine g_aload_n (n := 0) rfl rfl ?_
                  refine g_getf (v := vR 2) rfl (kl_1 _) rfl ?_
                  refine g_aload_n (n := 0) rfl rfl ?_
                  refine g_getf (v := vI (m.1 5)) rfl (kl_1 _) rfl ?_
                  refine g_iload_n (n := 2) rfl rfl ?_
                  refine g_iadd rfl ?_
                  have h18 : 0 ≤ m.2.1 2 (m.1 5 + 3) ∧ m.2.1 2 (m.1 5 + 3) ≤ 255 := hm.2 2 (m.1 5 + 3) (by omega) (show (m.1 5 + 3) < (200 : Int) by omega)
                  refine g_iald (f := m.2.1 2) rfl (kl_2 _) (by decide) (by omega) (by omega) ?_
                  refine g_icmp_eq (by decide) (by decide) (by omega) (by omega) rfl ?_ ?_
                  · intro kk19
                    refine g_iincE (z := 4) (by decide) (n := 2) (lo' := [(0, vR 1), (1, vE 11)]) rfl rfl rfl ?_
                    refine g_goto rfl ?_
                    refine g_iload_n (n := 2) rfl rfl ?_
                    refine g_aload_n (n := 1) rfl rfl ?_
                    refine g_slen (k := 9) (n := 4) (x := 4) rfl rfl rfl rfl (by decide) (by omega) (by omega) (Nat.le_of_ble_eq_true rfl) ?_
                    refine g_icmp_ge (by decide) (by decide) (by decide) (by decide) rfl ?_ ?_
                    · intro kk20
                      refine g_iconst rfl ?_
                      refine g_zret rfl rfl (by omega) ?_
                      exact ⟨_, _, rfl, rfl, Or.inl ⟨rfl, by unfold wd9; omega⟩⟩
                    · intro kk21
                      exfalso; omega
                  · intro kk22
                    refine g_iconst rfl ?_
                    refine g_zret rfl rfl (by omega) ?_
                    exact ⟨_, _, rfl, rfl, Or.inr ⟨rfl, by unfold wd9; omega⟩⟩
              · intro kk23
                refine g_iconst rfl ?_
                refine g_zret rfl rfl (by omega) ?_
                exact ⟨_, _, rfl, rfl, Or.inr ⟨rfl, by unfold wd9; omega⟩⟩
          · intro kk24
            refine g_iconst rfl ?_
            refine g_zret rfl rfl (by omega) ?_
            exact ⟨_, _, rfl, rfl, Or.inr ⟨rfl, by unfold wd9; omega⟩⟩
      · intro kk25
        refine g_iconst rfl ?_
        refine g_zret rfl rfl (by omega) ?_
        exact ⟨_, _, rfl, rfl, Or.inr ⟨rfl, by unfold wd9; omega⟩⟩
  · intro kk26
    refine g_iconst rfl ?_
    refine g_zret rfl rfl (by omega) ?_
    exact ⟨_, _, rfl, rfl, Or.inr ⟨rfl, by unfold wd9; omega⟩⟩
theorem c_wordOf_10 {V : cg_V} {d q : Nat} (hd : 0 ≤ d) (hq : 0 ≤ q) {m : kM} (hm : kI m) : cg_S V d q mX6_wordOf [vI 10] (kl m) (R_A (fun a m' => m = m' ∧ a = .inr 12)) := by
  refine cg_of (List.mem_of_getElem? (show ae_MT[69]? = some mX6_wordOf from rfl)) (Nat.le_of_ble_eq_true rfl) ?_
  show cg_G V mX6_wordOf d q _ 0 [(0, vI 10)] [] (kl m) 0 0
  refine g_iload_n (n := 0) rfl rfl ?_
  have kk1 : 10 = 10 := by omega
  refine g_tsw_in (tg := 90) (o9 := 89) (by omega) (by omega) rfl (by omega) (by omega) (rfl) (by decide) ?_
  refine g_ldcs rfl rfl rfl ?_
  refine g_aret rfl rfl ?_
  exact ⟨_, _, rfl, rfl, rfl⟩
theorem c_isHere_10 {V : cg_V} {d q : Nat} (hd : 4 ≤ d) (hq : 85 ≤ q) {m : kM} (hm : kI m) : cg_S V d q mX6_isHere [vR 1, vE 12] (kl m) (R_I (fun z m' => (m = m') ∧ ((z = 1 ∧ wd10 (m.2.1 2) (m.1 5) (m.1 6)) ∨ (z = 0 ∧ ¬ wd10 (m.2.1 2) (m.1 5) (m.1 6))))) := by
  refine cg_of (List.mem_of_getElem? (show ae_MT[72]? = some mX6_isHere from rfl)) (Nat.le_of_ble_eq_true rfl) ?_
  show cg_G V mX6_isHere d q _ 0 [(0, vR 1), (1, vE 12)] [] (kl m) 0 0
  have h1 : 0 ≤ m.1 5 ∧ m.1 5 ≤ 200 := hm.1 5
  have h2 : 0 ≤ m.1 6 ∧ m.1 6 ≤ 200 := hm.1 6
  refine g_aload_n (n := 1) rfl rfl ?_
  refine g_slen (k := 10) (n := 3) (x := 3) rfl rfl rfl rfl (by decide) (by omega) (by omega) (Nat.le_of_ble_eq_true rfl) ?_
  refine g_aload_n (n := 0) rfl rfl ?_
  refine g_getf (v := vI (m.1 6)) rfl (kl_1 _) rfl ?_
  refine g_aload_n (n := 0) rfl rfl ?_
  refine g_getf (v := vI (m.1 5)) rfl (kl_1 _) rfl ?_
  refine g_isub rfl ?_
  refine g_icmp_eq (by decide) (by decide) (by omega) (by omega) rfl ?_ ?_
  · intro kk3
    refine g_iconst rfl ?_
    refine g_istore_n (n := 2) (lo' := [(0, vR 1), (1, vE 12)]) rfl rfl ?_
    refine g_iload_n (n := 2) rfl rfl ?_
    refine g_aload_n (n := 1) rfl rfl ?_
    refine g_slen (k := 10) (n := 3) (x := 3) rfl rfl rfl rfl (by decide) (by omega) (by omega) (Nat.le_of_ble_eq_true rfl) ?_
    refine g_icmp_ge (by decide) (by decide) (by decide) (by decide) rfl ?_ ?_
    · intro kk4
      exfalso; omega
    · intro kk5
      refine g_aload_n (n := 1) rfl rfl ?_
      refine g_iload_n (n := 2) rfl rfl ?_
      refine g_chr (k := 10) (j := 0) (idx := 117) (ch := 107) (by decide) (by decide) (by decide +kernel) (by omega) (by omega) (by decide +kernel) (show decode cX6_isHere 30 = .ok (.invokevirtual 117, 3) by decide +kernel) (Nat.le_of_ble_eq_true rfl) ?_
      refine g_aload_n (n := 0) rfl rfl ?_
      refine g_getf (v := vR 2) rfl (kl_1 _) rfl ?_
      refine g_aload_n (n := 0) rfl rfl ?_
      refine g_getf (v := vI (m.1 5)) rfl (kl_1 _) rfl ?_
      refine g_iload_n (n := 2) rfl rfl ?_
      refine g_iaddE (z := m.1 5) (by omega) rfl ?_
      have h6 : 0 ≤ m.2.1 2 (m.1 5) ∧ m.2.1 2 (m.1 5) ≤ 255 := hm.2 2 (m.1 5) (by omega) (show m.1 5 < (200 : Int) by omega)
      refine g_iald (f := m.2.1 2) rfl (kl_2 _) (by decide) (by omega) (by omega) ?_
      refine g_icmp_eq (by decide) (by decide) (by omega) (by omega) rfl ?_ ?_
      · intro kk7
        refine g_iincE (z := 1) (by decide) (n := 2) (lo' := [(0, vR 1), (1, vE 12)]) rfl rfl rfl ?_
        refine g_goto rfl ?_
        refine g_iload_n (n := 2) rfl rfl ?_
        refine g_aload_n (n := 1) rfl rfl ?_
        refine g_slen (k := 10) (n := 3) (x := 3) rfl rfl rfl rfl (by decide) (by omega) (by omega) (Nat.le_of_ble_eq_true rfl) ?_
        refine g_icmp_ge (by decide) (by decide) (by decide) (by decide) rfl ?_ ?_
        · intro kk8
          exfalso; omega
        · intro kk9
          refine g_aload_n (n := 1) rfl rfl ?_
          refine g_iload_n (n := 2) rfl rfl ?_
          refine g_chr (k := 10) (j := 1) (idx := 117) (ch := 101) (by decide) (by decide) (by decide +kernel) (by omega) (by omega) (by decide +kernel) (show decode cX6_isHere 30 = .ok (.invokevirtual 117, 3) by decide +kernel) (Nat.le_of_ble_eq_true rfl) ?_
          refine g_aload_n (n := 0) rfl rfl ?_
          refine g_getf (v := vR 2) rfl (kl_1 _) rfl ?_
          refine g_aload_n (n := 0) rfl rfl ?_
          refine g_getf (v := vI (m.1 5)) rfl (kl_1 _) rfl ?_
          refine g_iload_n (n := 2) rfl rfl ?_
          refine g_iadd rfl ?_
          have h10 : 0 ≤ m.2.1 2 (m.1 5 + 1) ∧ m.2.1 2 (m.1 5 + 1) ≤ 255 := hm.2 2 (m.1 5 + 1) (by omega) (show (m.1 5 + 1) < (200 : Int) by omega)
          refine g_iald (f := m.2.1 2) rfl (kl_2 _) (by decide) (by omega) (by omega) ?_
          refine g_icmp_eq (by decide) (by decide) (by omega) (by omega) rfl ?_ ?_
          · intro kk11
            refine g_iincE (z := 2) (by decide) (n := 2) (lo' := [(0, vR 1), (1, vE 12)]) rfl rfl rfl ?_
            refine g_goto rfl ?_
            refine g_iload_n (n := 2) rfl rfl ?_
            refine g_aload_n (n := 1) rfl rfl ?_
            refine g_slen (k := 10) (n := 3) (x := 3) rfl rfl rfl rfl (by decide) (by omega) (by omega) (Nat.le_of_ble_eq_true rfl) ?_
            refine g_icmp_ge (by decide) (by decide) (by decide) (by decide) rfl ?_ ?_
            · intro kk12
              exfalso; omega
            · intro kk13
              refine g_aload_n (n := 1) rfl rfl ?_
              refine g_iload_n (n := 2) rfl rfl ?_
              refine g_chr (k := 10) (j := 2) (idx := 117) (ch := 121) (by decide) (by decide) (by decide +kernel) (by omega) (by omega) (by decide +kernel) (show decode cX6_isHere 30 = .ok (.invokevirtual 117, 3) by decide +kernel) (Nat.le_of_ble_eq_true rfl) ?_
              refine g_aload_n (n := 0) rfl rfl ?_
              refine g_getf (v := vR 2) rfl (kl_1 _) rfl ?_
              refine g_aload_n (n := 0) rfl rfl ?_
              refine g_getf (v := vI (m.1 5)) rfl (kl_1 _) rfl ?_
              refine g_iload_n (n := 2) rfl rfl ?_
              refine g_iadd rfl ?_
              have h14 : 0 ≤ m.2.1 2 (m.1 5 + 2) ∧ m.2.1 2 (m.1 5 + 2) ≤ 255 := hm.2 2 (m.1 5 + 2) (by omega) (show (m.1 5 + 2) < (200 : Int) by omega)
              refine g_iald (f := m.2.1 2) rfl (kl_2 _) (by decide) (by omega) (by omega) ?_
              refine g_icmp_eq (by decide) (by decide) (by omega) (by omega) rfl ?_ ?_
              · intro kk15
                refine g_iincE (z := 3) (by decide) (n := 2) (lo' := [(0, vR 1), (1, vE 12)]) rfl rfl rfl ?_
                refine g_goto rfl ?_
                refine g_iload_n (n := 2) rfl rfl ?_
                refine g_aload_n (n := 1) rfl rfl ?_
                refine g_slen (k := 10) (n := 3) (x := 3) rfl rfl rfl rfl (by decide) (by omega) (by omega) (Nat.le_of_ble_eq_true rfl) ?_
                refine g_icmp_ge (by decide) (by decide) (by decide) (by decide) rfl ?_ ?_
                · intro kk16
                  refine g_iconst rfl ?_
                  refine g_zret rfl rfl (by omega) ?_
                  exact ⟨_, _, rfl, rfl, Or.inl ⟨rfl, by unfold wd10; omega⟩⟩
                · intro kk17
                  exfalso; omega
              · intro kk18
                refine g_iconst rfl ?_
                refine g_zret rfl rfl (by omega) ?_
                exact ⟨_, _, rfl, rfl, Or.inr ⟨rfl, by unfold wd10; omega⟩⟩
          · intro kk19
            refine g_iconst rfl ?_
            refine g_zret rfl rfl (by omega) ?_
            exact ⟨_, _, rfl, rfl, Or.inr ⟨rfl, by unfold wd10; omega⟩⟩
      · intro kk20
        refine g_iconst rfl ?_
        refine g_zret rfl rfl (by omega) ?_
        exact ⟨_, _, rfl, rfl, Or.inr ⟨rfl, by unfold wd10; omega⟩⟩
  · intro kk21
    refine g_iconst rfl ?_
    refine g_zret rfl rfl (by omega) ?_
    exact ⟨_, _, rfl, rfl, Or.inr ⟨rfl, by unfold wd10; omega⟩⟩
theorem c_wordOf_11 {V : cg_V} {d q : Nat} (hd : 0 ≤ d) (hq : 0 ≤ q) {m : kM} (hm : kI m) : cg_S V d q mX6_wordOf [vI 11] (kl m) (R_A (fun a m' => m = m' ∧ a = .inr 13)) := by
  refine cg_of (List.mem_of_getElem? (show ae_MT[69]? = some mX6_wordOf from rfl)) (Nat.le_of_ble_eq_true rfl) ?_
  show cg_G V mX6_wordOf d q _ 0 [(0, vI 11)] [] (kl m) 0 0
  refine g_iload_n (n := 0) rfl rfl ?_
  have kk1 : 10 < 11 := by omega
  refine g_tsw_out (tg := 93) (by omega) (by omega) rfl (by omega) (by decide) ?_
  refine g_ldcs rfl rfl rfl ?_
  refine g_aret rfl rfl ?_
  exact ⟨_, _, rfl, rfl, rfl⟩
theorem c_isHere_11 {V : cg_V} {d q : Nat} (hd : 4 ≤ d) (hq : 85 ≤ q) {m : kM} (hm : kI m) : cg_S V d q mX6_isHere [vR 1, vE 13] (kl m) (R_I (fun z m' => (m = m') ∧ ((z = 1 ∧ wd11 (m.2.1 2) (m.1 5) (m.1 6)) ∨ (z = 0 ∧ ¬ wd11 (m.2.1 2) (m.1 5) (m.1 6))))) := by
  refine cg_of (List.mem_of_getElem? (show ae_MT[72]? = some mX6_isHere from rfl)) (Nat.le_of_ble_eq_true rfl) ?_
  show cg_G V mX6_isHere d q _ 0 [(0, vR 1), (1, vE 13)] [] (kl m) 0 0
  have h1 : 0 ≤ m.1 5 ∧ m.1 5 ≤ 200 := hm.1 5
  have h2 : 0 ≤ m.1 6 ∧ m.1 6 ≤ 200 := hm.1 6
  refine g_aload_n (n := 1) rfl rfl ?_
  refine g_slen (k := 11) (n := 5) (x := 5) rfl rfl rfl rfl (by decide) (by omega) (by omega) (Nat.le_of_ble_eq_true rfl) ?_
  refine g_aload_n (n := 0) rfl rfl ?_
  refine g_getf (v := vI (m.1 6)) rfl (kl_1 _) rfl ?_
  refine g_aload_n (n := 0) rfl rfl ?_
  refine g_getf (v := vI (m.1 5)) rfl (kl_1 _) rfl ?_
  refine g_isub rfl ?_
  refine g_icmp_eq (by decide) (by decide) (by omega) (by omega) rfl ?_ ?_
  · intro kk3
    refine g_iconst rfl ?_
    refine g_istore_n (n := 2) (lo' := [(0, vR 1), (1, vE 13)]) rfl rfl ?_
    refine g_iload_n (n := 2) rfl rfl ?_
    refine g_aload_n (n := 1) rfl rfl ?_
    refine g_slen (k := 11) (n := 5) (x := 5) rfl rfl rfl rfl (by decide) (by omega) (by omega) (Nat.le_of_ble_eq_true rfl) ?_
    refine g_icmp_ge (by decide) (by decide) (by decide) (by decide) rfl ?_ ?_
    · intro kk4
      exfalso; omega
    · intro kk5
      refine g_aload_n (n := 1) rfl rfl ?_
      refine g_iload_n (n := 2) rfl rfl ?_
      refine g_chr (k := 11) (j := 0) (idx := 117) (ch := 103) (by decide) (by decide) (by decide +kernel) (by omega) (by omega) (by decide +kernel) (show decode cX6_isHere 30 = .ok (.invokevirtual 117, 3) by decide +kernel) (Nat.le_of_ble_eq_true rfl) ?_
      refine g_aload_n (n := 0) rfl rfl ?_
      refine g_getf (v := vR 2) rfl (kl_1 _) rfl ?_
      refine g_aload_n (n := 0) rfl rfl ?_
      refine g_getf (v := vI (m.1 5)) rfl (kl_1 _) rfl ?_
      refine g_iload_n (n := 2) rfl rfl ?_
      refine g_iaddE (z := m.1 5) (by omega) rfl ?_
      have h6 : 0 ≤ m.2.1 2 (m.1 5) ∧ m.2.1 2 (m.1 5) ≤ 255 := hm.2 2 (m.1 5) (by omega) (show m.1 5 < (200 : Int) by omega)
      refine g_iald (f := m.2.1 2) rfl (kl_2 _) (by decide) (by omega) (by omega) ?_
      refine g_icmp_eq (by decide) (by decide) (by omega) (by omega) rfl ?_ ?_
      · intro kk7
        refine g_iincE (z := 1) (by decide) (n := 2) (lo' := [(0, vR 1), (1, vE 13)]) rfl rfl rfl ?_
        refine g_goto rfl ?_
        refine g_iload_n (n := 2) rfl rfl ?_
        refine g_aload_n (n := 1) rfl rfl ?_
        refine g_slen (k := 11) (n := 5) (x := 5) rfl rfl rfl rfl (by decide) (by omega) (by omega) (Nat.le_of_ble_eq_true rfl) ?_
        refine g_icmp_ge (by decide) (by decide) (by decide) (by decide) rfl ?_ ?_
        · intro kk8
          exfalso; omega
        · intro kk9
          refine g_aload_n (n := 1) rfl rfl ?_
          refine g_iload_n (n := 2) rfl rfl ?_
          refine g_chr (k := 11) (j := 1) (idx := 117) (ch := 117) (by decide) (by decide) (by decide +kernel) (by omega) (by omega) (by decide +kernel) (show decode cX6_isHere 30 = .ok (.invokevirtual 117, 3) by decide +kernel) (Nat.le_of_ble_eq_true rfl) ?_
          refine g_aload_n (n := 0) rfl rfl ?_
          refine g_getf (v := vR 2) rfl (kl_1 _) rfl ?_
          refine g_aload_n (n := 0) rfl rfl ?_
          refine g_getf (v := vI (m.1 5)) rfl (kl_1 _) rfl ?_
          refine g_iload_n (n := 2) rfl rfl ?_
          refine g_iadd rfl ?_
          have h10 : 0 ≤ m.2.1 2 (m.1 5 + 1) ∧ m.2.1 2 (m.1 5 + 1) ≤ 255 := hm.2 2 (m.1 5 + 1) (by omega) (show (m.1 5 + 1) < (200 : Int) by omega)
          refine g_iald (f := m.2.1 2) rfl (kl_2 _) (by decide) (by omega) (by omega) ?_
          refine g_icmp_eq (by decide) (by decide) (by omega) (by omega) rfl ?_ ?_
          · intro kk11
            refine g_iincE (z := 2) (by decide) (n := 2) (lo' := [(0, vR 1), (1, vE 13)]) rfl rfl rfl ?_
            refine g_goto rfl ?_
            refine g_iload_n (n := 2) rfl rfl ?_
            refine g_aload_n (n := 1) rfl rfl ?_
            refine g_slen (k := 11) (n := 5) (x := 5) rfl rfl rfl rfl (by decide) (by omega) (by omega) (Nat.le_of_ble_eq_true rfl) ?_
            refine g_icmp_ge (by decide) (by decide) (by decide) (by decide) rfl ?_ ?_
            · intro kk12
              exfalso; omega
            · intro kk13
              refine g_aload_n (n := 1) rfl rfl ?_
              refine g_iload_n (n := 2) rfl rfl ?_
              refine g_chr (k := 11) (j := 2) (idx := 117) (ch := 97) (by decide) (by decide) (by decide +kernel) (by omega) (by omega) (by decide +kernel) (show decode cX6_isHere 30 = .ok (.invokevirtual 117, 3) by decide +kernel) (Nat.le_of_ble_eq_true rfl) ?_
              refine g_aload_n (n := 0) rfl rfl ?_
              refine g_getf (v := vR 2) rfl (kl_1 _) rfl ?_
              refine g_aload_n (n := 0) rfl rfl ?_
              refine g_getf (v := vI (m.1 5)) rfl (kl_1 _) rfl ?_
              refine g_iload_n (n := 2) rfl rfl ?_
              refine g_iadd rfl ?_
              have h14 : 0 ≤ m.2.1 2 (m.1 5 + 2) ∧ m.2.1 2 (m.1 5 + 2) ≤ 255 := hm.2 2 (m.1 5 + 2) (by omega) (show (m.1 5 + 2) < (200 : Int) by omega)
              refine g_iald (f := m.2.1 2) rfl (kl_2 _) (by decide) (by omega) (by omega) ?_
              refine g_icmp_eq (by decide) (by decide) (by omega) (by omega) rfl ?_ ?_
              · intro kk15
                refine g_iincE (z := 3) (by decide) (n := 2) (lo' := [(0, vR 1), (1, vE 13)]) rfl rfl rfl ?_
                refine g_goto rfl ?_
                refine g_iload_n (n := 2) rfl rfl ?_
                refine g_aload_n (n := 1) rfl rfl ?_
                refine g_slen (k := 11) (n := 5) (x := 5) rfl rfl rfl rfl (by decide) (by omega) (by omega) (Nat.le_of_ble_eq_true rfl) ?_
                refine g_icmp_ge (by decide) (by decide) (by decide) (by decide) rfl ?_ ?_
                · intro kk16
                  exfalso; omega
                · intro kk17
                  refine g_aload_n (n := 1) rfl rfl ?_
                  refine g_iload_n (n := 2) rfl rfl ?_
                  refine g_chr (k := 11) (j := 3) (idx := 117) (ch := 114) (by decide) (by decide) (by decide +kernel) (by omega) (by omega) (by decide +kernel) (show decode cX6_isHere 30 = .ok (.invokevirtual 117, 3) by decide +kernel) (Nat.le_of_ble_eq_true rfl) ?_
                  refine g_aload_n (n := 0) rfl rfl ?_
                  refine g_getf (v := vR 2) rfl (kl_1 _) rfl ?_
                  refine g_aload_n (n := 0) rfl rfl ?_
                  refine g_getf (v := vI (m.1 5)) rfl (kl_1 _) rfl ?_
                  refine g_iload_n (n := 2) rfl rfl ?_
                  refine g_iadd rfl ?_
                  have h18 : 0 ≤ m.2.1 2 (m.1 5 + 3) ∧ m.2.1 2 (m.1 5 + 3) ≤ 255 := hm.2 2 (m.1 5 + 3) (by omega) (show (m.1 5 + 3) < (200 : Int) by omega)
                  refine g_iald (f := m.2.1 2) rfl (kl_2 _) (by decide) (by omega) (by omega) ?_
                  refine g_icmp_eq (by decide) (by decide) (by omega) (by omega) rfl ?_ ?_
                  · intro kk19
                    refine g_iincE (z := 4) (by decide) (n := 2) (lo' := [(0, vR 1), (1, vE 13)]) rfl rfl rfl ?_
                    refine g_goto rfl ?_
                    refine g_iload_n (n := 2) rfl rfl ?_
                    refine g_aload_n (n := 1) rfl rfl ?_
                    refine g_slen (k := 11) (n := 5) (x := 5) rfl rfl rfl rfl (by decide) (by omega) (by omega) (Nat.le_of_ble_eq_true rfl) ?_
                    refine g_icmp_ge (by decide) (by decide) (by decide) (by decide) rfl ?_ ?_
                    · intro kk20
                      exfalso; omega
                    · intro kk21
                      refine g_aload_n (n := 1) rfl rfl ?_
                      refine g_iload_n (n := 2) rfl rfl ?_
                      refine g_chr (k := 11) (j := 4) (idx := 117) (ch := 100) (by decide) (by decide) (by decide +kernel) (by omega) (by omega) (by decide +kernel) (show decode cX6_isHere 30 = .ok (.invokevirtual 117, 3) by decide +kernel) (Nat.le_of_ble_eq_true rfl) ?_
                      refine g_aload_n (n := 0) rfl rfl ?_
                      refine g_getf (v := vR 2) rfl (kl_1 _) rfl ?_
                      refine g_aload_n (n := 0) rfl rfl ?_
                      refine g_getf (v := vI (m.1 5)) rfl (kl_1 _) rfl ?_
                      refine g_iload_n (n := 2) rfl rfl ?_
                      refine g_iadd rfl ?_
                      have h22 : 0 ≤ m.2.1 2 (m.1 5 + 4) ∧ m.2.1 2 (m.1 5 + 4) ≤ 255 := hm.2 2 (m.1 5 + 4) (by omega) (show (m.1 5 + 4) < (200 : Int) by omega)
                      refine g_iald (f := m.2.1 2) rfl (kl_2 _) (by decide) (by omega) (by omega) ?_
                      refine g_icmp_eq (by decide) (by decide) (by omega) (by omega) rfl ?_ ?_
                      · intro kk23
                        refine g_iincE (z := 5) (by decide) (n := 2) (lo' := [(0, vR 1), (1, vE 13)]) rfl rfl rfl ?_
                        refine g_goto rfl ?_
                        refine g_iload_n (n := 2) rfl rfl ?_
                        refine g_aload_n (n := 1) rfl rfl ?_
                        refine g_slen (k := 11) (n := 5) (x := 5) rfl rfl rfl rfl (by decide) (by omega) (by omega) (Nat.le_of_ble_eq_true rfl) ?_
                        refine g_icmp_ge (by decide) (by decide) (by decide) (by decide) rfl ?_ ?_
                        · intro kk24
                          refine g_iconst rfl ?_
                          refine g_zret rfl rfl (by omega) ?_
                          exact ⟨_, _, rfl, rfl, Or.inl ⟨rfl, by unfold wd11; omega⟩⟩
                        · intro kk25
                          exfalso; omega
                      · intro kk26
                        refine g_iconst rfl ?_
                        refine g_zret rfl rfl (by omega) ?_
                        exact ⟨_, _, rfl, rfl, Or.inr ⟨rfl, by unfold wd11; omega⟩⟩
                  · intro kk27
                    refine g_iconst rfl ?_
                    refine g_zret rfl rfl (by omega) ?_
                    exact ⟨_, _, rfl, rfl, Or.inr ⟨rfl, by unfold wd11; omega⟩⟩
              · intro kk28
                refine g_iconst rfl ?_
                refine g_zret rfl rfl (by omega) ?_
                exact ⟨_, _, rfl, rfl, Or.inr ⟨rfl, by unfold wd11; omega⟩⟩
          · intro kk29
            refine g_iconst rfl ?_
            refine g_zret rfl rfl (by omega) ?_
            exact ⟨_, _, rfl, rfl, Or.inr ⟨rfl, by unfold wd11; omega⟩⟩
      · intro kk30
        refine g_iconst rfl ?_
        refine g_zret rfl rfl (by omega) ?_
        exact ⟨_, _, rfl, rfl, Or.inr ⟨rfl, by unfold wd11; omega⟩⟩
  · intro kk31
    refine g_iconst rfl ?_
    refine g_zret rfl rfl (by omega) ?_
    exact ⟨_, _, rfl, rfl, Or.inr ⟨rfl, by unfold wd11; omega⟩⟩
theorem c_wordHere {V : cg_V} {d q : Nat} (hd : 5 ≤ d) (hq : 107 ≤ q) {m : kM} (hm : kI m) : cg_S V d q mX6_wordHere [vR 1] (kl m) (R_I (fun z m' => (m = m') ∧ (z = WD (m.2.1 2) (m.1 5) (m.1 6)) ∧ (-1 ≤ z) ∧ (z ≤ 11))) := by
  refine cg_of (List.mem_of_getElem? (show ae_MT[73]? = some mX6_wordHere from rfl)) (Nat.le_of_ble_eq_true rfl) ?_
  show cg_G V mX6_wordHere d q _ 0 [(0, vR 1)] [] (kl m) 0 0
  have h1 : 0 ≤ m.1 5 ∧ m.1 5 ≤ 200 := hm.1 5
  have h2 : 0 ≤ m.1 6 ∧ m.1 6 ≤ 200 := hm.1 6
  refine g_iconst rfl ?_
  refine g_istore_n (n := 1) (lo' := [(0, vR 1)]) rfl rfl ?_
  refine g_iload_n (n := 1) rfl rfl ?_
  refine g_bipush (by decide) rfl ?_
  refine g_icmp_ge (by decide) (by decide) (by decide) (by decide) rfl ?_ ?_
  · intro kk3
    exfalso; omega
  · intro kk4
    refine g_aload_n (n := 0) rfl rfl ?_
    refine g_iload_n (n := 1) rfl rfl ?_
    refine c_sA (ps := [vI 0]) (r := [vR 1]) (as := [vI 0]) (cs' := 0) (sl' := 0) rfl rfl rfl rfl rfl rfl (c_wordOf_0 (d := d - 1) (q := q - (1 + 19)) (by omega) (by omega) hm  ) (by omega) (show 1 + 19 ≤ q by omega) (Nat.le_of_ble_eq_true rfl) (Nat.le_of_ble_eq_true rfl) rfl rfl rfl ?_
    rintro a7 m6 ⟨rfl, rfl⟩
    refine c_vI (i := 1) (ps := [vE 2]) (r := []) (as := [vR 1, vE 2]) (cs' := 0) (sl' := 0) rfl rfl rfl rfl rfl rfl (kl_1 _) (c_isHere_0 (d := d - 1) (q := q - (3 + 19)) (by omega) (by omega) hm  ) (by omega) (show 3 + 19 ≤ q by omega) (Nat.le_of_ble_eq_true rfl) (Nat.le_of_ble_eq_true rfl) rfl rfl rfl ?_
    rintro z8 m9 ⟨rfl, p11⟩
    refine g_if_eq (by omega) (by omega) rfl ?_ ?_
    · intro kk12
      refine g_iincE (z := 1) (by decide) (n := 1) (lo' := [(0, vR 1)]) rfl rfl rfl ?_
      refine g_goto rfl ?_
      refine g_iload_n (n := 1) rfl rfl ?_
      refine g_bipush (by decide) rfl ?_
      refine g_icmp_ge (by decide) (by decide) (by decide) (by decide) rfl ?_ ?_
      · intro kk13
        exfalso; omega
      · intro kk14
        refine g_aload_n (n := 0) rfl rfl ?_
        refine g_iload_n (n := 1) rfl rfl ?_
        refine c_sA (ps := [vI 1]) (r := [vR 1]) (as := [vI 1]) (cs' := 0) (sl' := 0) rfl rfl rfl rfl rfl rfl (c_wordOf_1 (d := d - 1) (q := q - (1 + 19)) (by omega) (by omega) hm  ) (by omega) (show 1 + 19 ≤ q by omega) (Nat.le_of_ble_eq_true rfl) (Nat.le_of_ble_eq_true rfl) rfl rfl rfl ?_
        rintro a17 m16 ⟨rfl, rfl⟩
        refine c_vI (i := 1) (ps := [vE 3]) (r := []) (as := [vR 1, vE 3]) (cs' := 0) (sl' := 0) rfl rfl rfl rfl rfl rfl (kl_1 _) (c_isHere_1 (d := d - 1) (q := q - (3 + 19)) (by omega) (by omega) hm  ) (by omega) (show 3 + 19 ≤ q by omega) (Nat.le_of_ble_eq_true rfl) (Nat.le_of_ble_eq_true rfl) rfl rfl rfl ?_
        rintro z18 m19 ⟨rfl, p21⟩
        refine g_if_eq (by omega) (by omega) rfl ?_ ?_
        · intro kk22
          refine g_iincE (z := 2) (by decide) (n := 1) (lo' := [(0, vR 1)]) rfl rfl rfl ?_
          refine g_goto rfl ?_
          refine g_iload_n (n := 1) rfl rfl ?_
          refine g_bipush (by decide) rfl ?_
          refine g_icmp_ge (by decide) (by decide) (by decide) (by decide) rfl ?_ ?_
          · intro kk23
            exfalso; omega
          · intro kk24
            refine g_aload_n (n := 0) rfl rfl ?_
            refine g_iload_n (n := 1) rfl rfl ?_
            refine c_sA (ps := [vI 2]) (r := [vR 1]) (as := [vI 2]) (cs' := 0) (sl' := 0) rfl rfl rfl rfl rfl rfl (c_wordOf_2 (d := d - 1) (q := q - (1 + 19)) (by omega) (by omega) hm  ) (by omega) (show 1 + 19 ≤ q by omega) (Nat.le_of_ble_eq_true rfl) (Nat.le_of_ble_eq_true rfl) rfl rfl rfl ?_
            rintro a27 m26 ⟨rfl, rfl⟩
            refine c_vI (i := 1) (ps := [vE 4]) (r := []) (as := [vR 1, vE 4]) (cs' := 0) (sl' := 0) rfl rfl rfl rfl rfl rfl (kl_1 _) (c_isHere_2 (d := d - 1) (q := q - (3 + 19)) (by omega) (by omega) hm  ) (by omega) (show 3 + 19 ≤ q by omega) (Nat.le_of_ble_eq_true rfl) (Nat.le_of_ble_eq_true rfl) rfl rfl rfl ?_
            rintro z28 m29 ⟨rfl, p31⟩
            refine g_if_eq (by omega) (by omega) rfl ?_ ?_
            · intro kk32
              refine g_iincE (z := 3) (by decide) (n := 1) (lo' := [(0, vR 1)]) rfl rfl rfl ?_
              refine g_goto rfl ?_
              refine g_iload_n (n := 1) rfl rfl ?_
              refine g_bipush (by decide) rfl ?_
              refine g_icmp_ge (by decide) (by decide) (by decide) (by decide) rfl ?_ ?_
              · intro kk33
                exfalso; omega
              · intro kk34
                refine g_aload_n (n := 0) rfl rfl ?_
                refine g_iload_n (n := 1) rfl rfl ?_
                refine c_sA (ps := [vI 3]) (r := [vR 1]) (as := [vI 3]) (cs' := 0) (sl' := 0) rfl rfl rfl rfl rfl rfl (c_wordOf_3 (d := d - 1) (q := q - (1 + 19)) (by omega) (by omega) hm  ) (by omega) (show 1 + 19 ≤ q by omega) (Nat.le_of_ble_eq_true rfl) (Nat.le_of_ble_eq_true rfl) rfl rfl rfl ?_
                rintro a37 m36 ⟨rfl, rfl⟩
                refine c_vI (i := 1) (ps := [vE 5]) (r := []) (as := [vR 1, vE 5]) (cs' := 0) (sl' := 0) rfl rfl rfl rfl rfl rfl (kl_1 _) (c_isHere_3 (d := d - 1) (q := q - (3 + 19)) (by omega) (by omega) hm  ) (by omega) (show 3 + 19 ≤ q by omega) (Nat.le_of_ble_eq_true rfl) (Nat.le_of_ble_eq_true rfl) rfl rfl rfl ?_
                rintro z38 m39 ⟨rfl, p41⟩
                refine g_if_eq (by omega) (by omega) rfl ?_ ?_
                · intro kk42
                  refine g_iincE (z := 4) (by decide) (n := 1) (lo' := [(0, vR 1)]) rfl rfl rfl ?_
                  refine g_goto rfl ?_
                  refine g_iload_n (n := 1) rfl rfl ?_
                  refine g_bipush (by decide) rfl ?_
                  refine g_icmp_ge (by decide) (by decide) (by decide) (by decide) rfl ?_ ?_
                  · intro kk43
                    exfalso; omega
                  · intro kk44
                    refine g_aload_n (n := 0) rfl rfl ?_
                    refine g_iload_n (n := 1) rfl rfl ?_
                    refine c_sA (ps := [vI 4]) (r := [vR 1]) (as := [vI 4]) (cs' := 0) (sl' := 0) rfl rfl rfl rfl rfl rfl (c_wordOf_4 (d := d - 1) (q := q - (1 + 19)) (by omega) (by omega) hm  ) (by omega) (show 1 + 19 ≤ q by omega) (Nat.le_of_ble_eq_true rfl) (Nat.le_of_ble_eq_true rfl) rfl rfl rfl ?_
                    rintro a47 m46 ⟨rfl, rfl⟩
                    refine c_vI (i := 1) (ps := [vE 6]) (r := []) (as := [vR 1, vE 6]) (cs' := 0) (sl' := 0) rfl rfl rfl rfl rfl rfl (kl_1 _) (c_isHere_4 (d := d - 1) (q := q - (3 + 19)) (by omega) (by omega) hm  ) (by omega) (show 3 + 19 ≤ q by omega) (Nat.le_of_ble_eq_true rfl) (Nat.le_of_ble_eq_true rfl) rfl rfl rfl ?_
                    rintro z48 m49 ⟨rfl, p51⟩
                    refine g_if_eq (by omega) (by omega) rfl ?_ ?_
                    · intro kk52
                      refine g_iincE (z := 5) (by decide) (n := 1) (lo' := [(0, vR 1)]) rfl rfl rfl ?_
                      refine g_goto rfl ?_
                      refine g_iload_n (n := 1) rfl rfl ?_
                      refine g_bipush (by decide) rfl ?_
                      refine g_icmp_ge (by decide) (by decide) (by decide) (by decide) rfl ?_ ?_
                      · intro kk53
                        exfalso; omega
                      · intro kk54
                        refine g_aload_n (n := 0) rfl rfl ?_
                        refine g_iload_n (n := 1) rfl rfl ?_
                        refine c_sA (ps := [vI 5]) (r := [vR 1]) (as := [vI 5]) (cs' := 0) (sl' := 0) rfl rfl rfl rfl rfl rfl (c_wordOf_5 (d := d - 1) (q := q - (1 + 19)) (by omega) (by omega) hm  ) (by omega) (show 1 + 19 ≤ q by omega) (Nat.le_of_ble_eq_true rfl) (Nat.le_of_ble_eq_true rfl) rfl rfl rfl ?_
                        rintro a57 m56 ⟨rfl, rfl⟩
                        refine c_vI (i := 1) (ps := [vE 7]) (r := []) (as := [vR 1, vE 7]) (cs' := 0) (sl' := 0) rfl rfl rfl rfl rfl rfl (kl_1 _) (c_isHere_5 (d := d - 1) (q := q - (3 + 19)) (by omega) (by omega) hm  ) (by omega) (show 3 + 19 ≤ q by omega) (Nat.le_of_ble_eq_true rfl) (Nat.le_of_ble_eq_true rfl) rfl rfl rfl ?_
                        rintro z58 m59 ⟨rfl, p61⟩
                        refine g_if_eq (by omega) (by omega) rfl ?_ ?_
                        · intro kk62
                          refine g_iincE (z := 6) (by decide) (n := 1) (lo' := [(0, vR 1)]) rfl rfl rfl ?_
                          refine g_goto rfl ?_
                          refine g_iload_n (n := 1) rfl rfl ?_
                          refine g_bipush (by decide) rfl ?_
                          refine g_icmp_ge (by decide) (by decide) (by decide) (by decide) rfl ?_ ?_
                          · intro kk63
                            exfalso; omega
                          · intro kk64
                            refine g_aload_n (n := 0) rfl rfl ?_
                            refine g_iload_n (n := 1) rfl rfl ?_
                            refine c_sA (ps := [vI 6]) (r := [vR 1]) (as := [vI 6]) (cs' := 0) (sl' := 0) rfl rfl rfl rfl rfl rfl (c_wordOf_6 (d := d - 1) (q := q - (1 + 19)) (by omega) (by omega) hm  ) (by omega) (show 1 + 19 ≤ q by omega) (Nat.le_of_ble_eq_true rfl) (Nat.le_of_ble_eq_true rfl) rfl rfl rfl ?_
                            rintro a67 m66 ⟨rfl, rfl⟩
                            refine c_vI (i := 1) (ps := [vE 8]) (r := []) (as := [vR 1, vE 8]) (cs' := 0) (sl' := 0) rfl rfl rfl rfl rfl rfl (kl_1 _) (c_isHere_6 (d := d - 1) (q := q - (3 + 19)) (by omega) (by omega) hm  ) (by omega) (show 3 + 19 ≤ q by omega) (Nat.le_of_ble_eq_true rfl) (Nat.le_of_ble_eq_true rfl) rfl rfl rfl ?_
                            rintro z68 m69 ⟨rfl, p71⟩
                            refine g_if_eq (by omega) (by omega) rfl ?_ ?_
                            · intro kk72
                              refine g_iincE (z := 7) (by decide) (n := 1) (lo' := [(0, vR 1)]) rfl rfl rfl ?_
                              refine g_goto rfl ?_
                              refine g_iload_n (n := 1) rfl rfl ?_
                              refine g_bipush (by decide) rfl ?_
                              refine g_icmp_ge (by decide) (by decide) (by decide) (by decide) rfl ?_ ?_
                              · intro kk73
                                exfalso; omega
                              · intro kk74
                                refine g_aload_n (n := 0) rfl rfl ?_
                                refine g_iload_n (n := 1) rfl rfl ?_
                                refine c_sA (ps := [vI 7]) (r := [vR 1]) (as := [vI 7]) (cs' := 0) (sl' := 0) rfl rfl rfl rfl rfl rfl (c_wordOf_7 (d := d - 1) (q := q - (1 + 19)) (by omega) (by omega) hm  ) (by omega) (show 1 + 19 ≤ q by omega) (Nat.le_of_ble_eq_true rfl) (Nat.le_of_ble_eq_true rfl) rfl rfl rfl ?_
                                rintro a77 m76 ⟨rfl, rfl⟩
                                refine c_vI (i := 1) (ps := [vE 9]) (r := []) (as := [vR 1, vE 9]) (cs' := 0) (sl' := 0) rfl rfl rfl rfl rfl rfl (kl_1 _) (c_isHere_7 (d := d - 1) (q := q - (3 + 19)) (by omega) (by omega) hm  ) (by omega) (show 3 + 19 ≤ q by omega) (Nat.le_of_ble_eq_true rfl) (Nat.le_of_ble_eq_true rfl) rfl rfl rfl ?_
                                rintro z78 m79 ⟨rfl, p81⟩
                                refine g_if_eq (by omega) (by omega) rfl ?_ ?_
                                · intro kk82
                                  refine g_iincE (z := 8) (by decide) (n := 1) (lo' := [(0, vR 1)]) rfl rfl rfl ?_
                                  refine g_goto rfl ?_
                                  refine g_iload_n (n := 1) rfl rfl ?_
                                  refine g_bipush (by decide) rfl ?_
                                  refine g_icmp_ge (by decide) (by decide) (by decide) (by decide) rfl ?_ ?_
                                  · intro kk83
                                    exfalso; omega
                                  · intro kk84
                                    refine g_aload_n (n := 0) rfl rfl ?_
                                    refine g_iload_n (n := 1) rfl rfl ?_
                                    refine c_sA (ps := [vI 8]) (r := [vR 1]) (as := [vI 8]) (cs' := 0) (sl' := 0) rfl rfl rfl rfl rfl rfl (c_wordOf_8 (d := d - 1) (q := q - (1 + 19)) (by omega) (by omega) hm  ) (by omega) (show 1 + 19 ≤ q by omega) (Nat.le_of_ble_eq_true rfl) (Nat.le_of_ble_eq_true rfl) rfl rfl rfl ?_
                                    rintro a87 m86 ⟨rfl, rfl⟩
                                    refine c_vI (i := 1) (ps := [vE 10]) (r := []) (as := [vR 1, vE 10]) (cs' := 0) (sl' := 0) rfl rfl rfl rfl rfl rfl (kl_1 _) (c_isHere_8 (d := d - 1) (q := q - (3 + 19)) (by omega) (by omega) hm  ) (by omega) (show 3 + 19 ≤ q by omega) (Nat.le_of_ble_eq_true rfl) (Nat.le_of_ble_eq_true rfl) rfl rfl rfl ?_
                                    rintro z88 m89 ⟨rfl, p91⟩
                                    refine g_if_eq (by omega) (by omega) rfl ?_ ?_
                                    · intro kk92
                                      refine g_iincE (z := 9) (by decide) (n := 1) (lo' := [(0, vR 1)]) rfl rfl rfl ?_
                                      refine g_goto rfl ?_
                                      refine g_iload_n (n := 1) rfl rfl ?_
                                      refine g_bipush (by decide) rfl ?_
                                      refine g_icmp_ge (by decide) (by decide) (by decide) (by decide) rfl ?_ ?_
                                      · intro kk93
                                        exfalso; omega
                                      · intro kk94
                                        refine g_aload_n (n := 0) rfl rfl ?_
                                        refine g_iload_n (n := 1) rfl rfl ?_
                                        refine c_sA (ps := [vI 9]) (r := [vR 1]) (as := [vI 9]) (cs' := 0) (sl' := 0) rfl rfl rfl rfl rfl rfl (c_wordOf_9 (d := d - 1) (q := q - (1 + 19)) (by omega) (by omega) hm  ) (by omega) (show 1 + 19 ≤ q by omega) (Nat.le_of_ble_eq_true rfl) (Nat.le_of_ble_eq_true rfl) rfl rfl rfl ?_
                                        rintro a97 m96 ⟨rfl, rfl⟩
                                        refine c_vI (i := 1) (ps := [vE 11]) (r := []) (as := [vR 1, vE 11]) (cs' := 0) (sl' := 0) rfl rfl rfl rfl rfl rfl (kl_1 _) (c_isHere_9 (d := d - 1) (q := q - (3 + 19)) (by omega) (by omega) hm  ) (by omega) (show 3 + 19 ≤ q by omega) (Nat.le_of_ble_eq_true rfl) (Nat.le_of_ble_eq_true rfl) rfl rfl rfl ?_
                                        rintro z98 m99 ⟨rfl, p101⟩
                                        refine g_if_eq (by omega) (by omega) rfl ?_ ?_
                                        · intro kk102
                                          refine g_iincE (z := 10) (by decide) (n := 1) (lo' := [(0, vR 1)]) rfl rfl rfl ?_
                                          refine g_goto rfl ?_
                                          refine g_iload_n (n := 1) rfl rfl ?_
                                          refine g_bipush (by decide) rfl ?_
                                          refine g_icmp_ge (by decide) (by decide) (by decide) (by decide) rfl ?_ ?_
                                          · intro kk103
                                            exfalso; omega
                                          · intro kk104
                                            refine g_aload_n (n := 0) rfl rfl ?_
                                            refine g_iload_n (n := 1) rfl rfl ?_
                                            refine c_sA (ps := [vI 10]) (r := [vR 1]) (as := [vI 10]) (cs' := 0) (sl' := 0) rfl rfl rfl rfl rfl rfl (c_wordOf_10 (d := d - 1) (q := q - (1 + 19)) (by omega) (by omega) hm  ) (by omega) (show 1 + 19 ≤ q by omega) (Nat.le_of_ble_eq_true rfl) (Nat.le_of_ble_eq_true rfl) rfl rfl rfl ?_
                                            rintro a107 m106 ⟨rfl, rfl⟩
                                            refine c_vI (i := 1) (ps := [vE 12]) (r := []) (as := [vR 1, vE 12]) (cs' := 0) (sl' := 0) rfl rfl rfl rfl rfl rfl (kl_1 _) (c_isHere_10 (d := d - 1) (q := q - (3 + 19)) (by omega) (by omega) hm  ) (by omega) (show 3 + 19 ≤ q by omega) (Nat.le_of_ble_eq_true rfl) (Nat.le_of_ble_eq_true rfl) rfl rfl rfl ?_
                                            rintro z108 m109 ⟨rfl, p111⟩
                                            refine g_if_eq (by omega) (by omega) rfl ?_ ?_
                                            · intro kk112
                                              refine g_iincE (z := 11) (by decide) (n := 1) (lo' := [(0, vR 1)]) rfl rfl rfl ?_
                                              refine g_goto rfl ?_
                                              refine g_iload_n (n := 1) rfl rfl ?_
                                              refine g_bipush (by decide) rfl ?_
                                              refine g_icmp_ge (by decide) (by decide) (by decide) (by decide) rfl ?_ ?_
                                              · intro kk113
                                                exfalso; omega
                                              · intro kk114
                                                refine g_aload_n (n := 0) rfl rfl ?_
                                                refine g_iload_n (n := 1) rfl rfl ?_
                                                refine c_sA (ps := [vI 11]) (r := [vR 1]) (as := [vI 11]) (cs' := 0) (sl' := 0) rfl rfl rfl rfl rfl rfl (c_wordOf_11 (d := d - 1) (q := q - (1 + 19)) (by omega) (by omega) hm  ) (by omega) (show 1 + 19 ≤ q by omega) (Nat.le_of_ble_eq_true rfl) (Nat.le_of_ble_eq_true rfl) rfl rfl rfl ?_
                                                rintro a117 m116 ⟨rfl, rfl⟩
                                                refine c_vI (i := 1) (ps := [vE 13]) (r := []) (as := [vR 1, vE 13]) (cs' := 0) (sl' := 0) rfl rfl rfl rfl rfl rfl (kl_1 _) (c_isHere_11 (d := d - 1) (q := q - (3 + 19)) (by omega) (by omega) hm  ) (by omega) (show 3 + 19 ≤ q by omega) (Nat.le_of_ble_eq_true rfl) (Nat.le_of_ble_eq_true rfl) rfl rfl rfl ?_
                                                rintro z118 m119 ⟨rfl, p121⟩
                                                refine g_if_eq (by omega) (by omega) rfl ?_ ?_
                                                · intro kk122
                                                  refine g_iincE (z := 12) (by decide) (n := 1) (lo' := [(0, vR 1)]) rfl rfl rfl ?_
                                                  refine g_goto rfl ?_
                                                  refine g_iload_n (n := 1) rfl rfl ?_
                                                  refine g_bipush (by decide) rfl ?_
                                                  refine g_icmp_ge (by decide) (by decide) (by decide) (by decide) rfl ?_ ?_
                                                  · intro kk123
                                                    refine g_iconst rfl ?_
                                                    refine g_iret rfl rfl ?_
                                                    exact ⟨_, _, rfl, rfl, (WD_no ((p11.resolve_left (by omega)).2) ((p21.resolve_left (by omega)).2) ((p31.resolve_left (by omega)).2) ((p41.resolve_left (by omega)).2) ((p51.resolve_left (by omega)).2) ((p61.resolve_left (by omega)).2) ((p71.resolve_left (by omega)).2) ((p81.resolve_left (by omega)).2) ((p91.resolve_left (by omega)).2) ((p101.resolve_left (by omega)).2) ((p111.resolve_left (by omega)).2) ((p121.resolve_left (by omega)).2)).symm, by omega, by omega⟩
                                                  · intro kk124
                                                    exfalso; omega
                                                · intro kk125
                                                  refine g_iload_n (n := 1) rfl rfl ?_
                                                  refine g_iret rfl rfl ?_
                                                  exact ⟨_, _, rfl, rfl, (WD_11 ((p11.resolve_left (by omega)).2) ((p21.resolve_left (by omega)).2) ((p31.resolve_left (by omega)).2) ((p41.resolve_left (by omega)).2) ((p51.resolve_left (by omega)).2) ((p61.resolve_left (by omega)).2) ((p71.resolve_left (by omega)).2) ((p81.resolve_left (by omega)).2) ((p91.resolve_left (by omega)).2) ((p101.resolve_left (by omega)).2) ((p111.resolve_left (by omega)).2) (p121.resolve_right (by omega)).2).symm, by omega, by omega⟩
                                            · intro kk126
                                              refine g_iload_n (n := 1) rfl rfl ?_
                                              refine g_iret rfl rfl ?_
                                              exact ⟨_, _, rfl, rfl, (WD_10 ((p11.resolve_left (by omega)).2) ((p21.resolve_left (by omega)).2) ((p31.resolve_left (by omega)).2) ((p41.resolve_left (by omega)).2) ((p51.resolve_left (by omega)).2) ((p61.resolve_left (by omega)).2) ((p71.resolve_left (by omega)).2) ((p81.resolve_left (by omega)).2) ((p91.resolve_left (by omega)).2) ((p101.resolve_left (by omega)).2) (p111.resolve_right (by omega)).2).symm, by omega, by omega⟩
                                        · intro kk127
                                          refine g_iload_n (n := 1) rfl rfl ?_
                                          refine g_iret rfl rfl ?_
                                          exact ⟨_, _, rfl, rfl, (WD_9 ((p11.resolve_left (by omega)).2) ((p21.resolve_left (by omega)).2) ((p31.resolve_left (by omega)).2) ((p41.resolve_left (by omega)).2) ((p51.resolve_left (by omega)).2) ((p61.resolve_left (by omega)).2) ((p71.resolve_left (by omega)).2) ((p81.resolve_left (by omega)).2) ((p91.resolve_left (by omega)).2) (p101.resolve_right (by omega)).2).symm, by omega, by omega⟩
                                    · intro kk128
                                      refine g_iload_n (n := 1) rfl rfl ?_
                                      refine g_iret rfl rfl ?_
                                      exact ⟨_, _, rfl, rfl, (WD_8 ((p11.resolve_left (by omega)).2) ((p21.resolve_left (by omega)).2) ((p31.resolve_left (by omega)).2) ((p41.resolve_left (by omega)).2) ((p51.resolve_left (by omega)).2) ((p61.resolve_left (by omega)).2) ((p71.resolve_left (by omega)).2) ((p81.resolve_left (by omega)).2) (p91.resolve_right (by omega)).2).symm, by omega, by omega⟩
                                · intro kk129
                                  refine g_iload_n (n := 1) rfl rfl ?_
                                  refine g_iret rfl rfl ?_
                                  exact ⟨_, _, rfl, rfl, (WD_7 ((p11.resolve_left (by omega)).2) ((p21.resolve_left (by omega)).2) ((p31.resolve_left (by omega)).2) ((p41.resolve_left (by omega)).2) ((p51.resolve_left (by omega)).2) ((p61.resolve_left (by omega)).2) ((p71.resolve_left (by omega)).2) (p81.resolve_right (by omega)).2).symm, by omega, by omega⟩
                            · intro kk130
                              refine g_iload_n (n := 1) rfl rfl ?_
                              refine g_iret rfl rfl ?_
                              exact ⟨_, _, rfl, rfl, (WD_6 ((p11.resolve_left (by omega)).2) ((p21.resolve_left (by omega)).2) ((p31.resolve_left (by omega)).2) ((p41.resolve_left (by omega)).2) ((p51.resolve_left (by omega)).2) ((p61.resolve_left (by omega)).2) (p71.resolve_right (by omega)).2).symm, by omega, by omega⟩
                        · intro kk131
                          refine g_iload_n (n := 1) rfl rfl ?_
                          refine g_iret rfl rfl ?_
                          exact ⟨_, _, rfl, rfl, (WD_5 ((p11.resolve_left (by omega)).2) ((p21.resolve_left (by omega)).2) ((p31.resolve_left (by omega)).2) ((p41.resolve_left (by omega)).2) ((p51.resolve_left (by omega)).2) (p61.resolve_right (by omega)).2).symm, by omega, by omega⟩
                    · intro kk132
                      refine g_iload_n (n := 1) rfl rfl ?_
                      refine g_iret rfl rfl ?_
                      exact ⟨_, _, rfl, rfl, (WD_4 ((p11.resolve_left (by omega)).2) ((p21.resolve_left (by omega)).2) ((p31.resolve_left (by omega)).2) ((p41.resolve_left (by omega)).2) (p51.resolve_right (by omega)).2).symm, by omega, by omega⟩
                · intro kk133
                  refine g_iload_n (n := 1) rfl rfl ?_
                  refine g_iret rfl rfl ?_
                  exact ⟨_, _, rfl, rfl, (WD_3 ((p11.resolve_left (by omega)).2) ((p21.resolve_left (by omega)).2) ((p31.resolve_left (by omega)).2) (p41.resolve_right (by omega)).2).symm, by omega, by omega⟩
            · intro kk134
              refine g_iload_n (n := 1) rfl rfl ?_
              refine g_iret rfl rfl ?_
              exact ⟨_, _, rfl, rfl, (WD_2 ((p11.resolve_left (by omega)).2) ((p21.resolve_left (by omega)).2) (p31.resolve_right (by omega)).2).symm, by omega, by omega⟩
        · intro kk135
          refine g_iload_n (n := 1) rfl rfl ?_
          refine g_iret rfl rfl ?_
          exact ⟨_, _, rfl, rfl, (WD_1 ((p11.resolve_left (by omega)).2) (p21.resolve_right (by omega)).2).symm, by omega, by omega⟩
    · intro kk136
      refine g_iload_n (n := 1) rfl rfl ?_
      refine g_iret rfl rfl ?_
      exact ⟨_, _, rfl, rfl, (WD_0  (p11.resolve_right (by omega)).2).symm, by omega, by omega⟩
theorem c_nextNumber {V : cg_V} {d q : Nat} (hd : 2 ≤ d) (hq : 40 ≤ q) {m : kM} (hm : kI m) {a b : Int} (h_a : 0 ≤ a ∧ a ≤ 6) (h_b : 0 ≤ b ∧ b ≤ 6) (he : m.1 6 ≤ m.1 3) : cg_S V d q mX6_nextNumber [vR 1, vI a, vI b] (kl m) (R_I (fun z m' => (kI m') ∧ (fr [5, 6] [] m m') ∧ (z = NUM (m.2.1 2) (m.1 3) a b (m.1 6)) ∧ (m'.1 5 = SK (m.2.1 2) (m.1 3) (m.1 6)) ∧ (m'.1 6 = EP (m.2.1 2) (m.1 3) (m.1 6)) ∧ (-1 ≤ z) ∧ (z ≤ b) ∧ (z = -1 ∨ a ≤ z))) := by
  have hf0 : fr [5, 6] [] m m := fr_rf m
  refine cg_of (List.mem_of_getElem? (show ae_MT[74]? = some mX6_nextNumber from rfl)) (Nat.le_of_ble_eq_true rfl) ?_
  show cg_G V mX6_nextNumber d q _ 0 [(0, vR 1), (1, vI a), (2, vI b)] [] (kl m) 0 0
  have h1 : 0 ≤ m.1 3 ∧ m.1 3 ≤ 200 := hm.1 3
  have h2 : 0 ≤ m.1 6 ∧ m.1 6 ≤ 200 := hm.1 6
  have hEr := EP_rng (t := m.2.1 2) he
  refine g_aload_n (n := 0) rfl rfl ?_
  refine c_vV (i := 1) (ps := []) (r := []) (as := [vR 1]) (cs' := 0) (sl' := 0) rfl rfl rfl rfl rfl rfl (kl_1 _) (c_nextToken (d := d - 1) (q := q - (1 + 19)) (by omega) (by omega) hm  (by omega)) (by omega) (show 1 + 19 ≤ q by omega) (Nat.le_of_ble_eq_true rfl) (Nat.le_of_ble_eq_true rfl) rfl rfl rfl ?_
  rintro m4 ⟨hm6, hc7, p8, p9⟩
  have hf10 : fr [5, 6] [] m m4 := fr_tr hf0 (fr_le hc7 rfl rfl)
  have h11 : m4.1 3 = m.1 3 := hc7.1 3 rfl
  have h12 : 0 ≤ m4.1 3 ∧ m4.1 3 ≤ 200 := hm6.1 3
  refine g_aload_n (n := 0) rfl rfl ?_
  have h13 : 0 ≤ m4.1 6 ∧ m4.1 6 ≤ 200 := hm6.1 6
  refine g_getf (v := vI (m4.1 6)) rfl (kl_1 _) rfl ?_
  refine g_aload_n (n := 0) rfl rfl ?_
  have h14 : 0 ≤ m4.1 5 ∧ m4.1 5 ≤ 200 := hm6.1 5
  refine g_getf (v := vI (m4.1 5)) rfl (kl_1 _) rfl ?_
  refine g_icmp_eq (by omega) (by omega) (by omega) (by omega) rfl ?_ ?_
  · intro kk15
    refine g_iconst rfl ?_
    refine g_iret rfl rfl ?_
    have hz : (-1) = NUM (m.2.1 2) (m.1 3) a b (m.1 6) := by
      unfold NUM
      rw [← p8, ← p9]
      have u1 := srt_sp (m.2.1 2 (m4.1 5))
      have u2 := srt_sp (m.2.1 2 (m4.1 5 + 1))
      unfold NU
      (repeat' split) <;> omega
    exact ⟨_, _, rfl, hm6, hf10, hz, p8, p9, by omega, by omega, by omega⟩
  · intro kk16
    refine g_aload_n (n := 0) rfl rfl ?_
    refine g_getf (v := vI (m4.1 6)) rfl (kl_1 _) rfl ?_
    refine g_aload_n (n := 0) rfl rfl ?_
    refine g_getf (v := vI (m4.1 5)) rfl (kl_1 _) rfl ?_
    refine g_isub rfl ?_
    refine g_iconst rfl ?_
    refine g_icmp_le (by omega) (by omega) (by decide) (by decide) rfl ?_ ?_
    · intro kk17
      refine g_iconst rfl ?_
      refine g_istore_n (n := 3) (lo' := [(0, vR 1), (1, vI a), (2, vI b)]) rfl rfl ?_
      refine g_aload_n (n := 0) rfl rfl ?_
      refine g_getf (v := vI (m4.1 5)) rfl (kl_1 _) rfl ?_
      refine g_istore (n := 4) (lo' := [(3, vI 0), (0, vR 1), (1, vI a), (2, vI b)]) rfl rfl ?_
      refine g_iload (n := 4) rfl rfl ?_
      refine g_aload_n (n := 0) rfl rfl ?_
      refine g_getf (v := vI (m4.1 6)) rfl (kl_1 _) rfl ?_
      refine g_icmp_ge (by omega) (by omega) (by omega) (by omega) rfl ?_ ?_
      · intro kk18
        exfalso; omega
      · intro kk19
        refine g_aload_n (n := 0) rfl rfl ?_
        refine g_getf (v := vR 2) rfl (kl_1 _) rfl ?_
        refine g_iload (n := 4) rfl rfl ?_
        have h20 : 0 ≤ m4.2.1 2 (m4.1 5) ∧ m4.2.1 2 (m4.1 5) ≤ 255 := hm6.2 2 (m4.1 5) (by omega) (show m4.1 5 < (200 : Int) by omega)
        have h21 : m4.2.1 2 (m4.1 5) = m.2.1 2 (m4.1 5) := congrFun (hc7.2.1 2 rfl) _
        refine g_iald (f := m4.2.1 2) rfl (kl_2 _) (by decide) (by omega) (by omega) ?_
        refine c_sI (ps := [vI (m4.2.1 2 (m4.1 5))]) (r := []) (as := [vI (m4.2.1 2 (m4.1 5))]) (cs' := 0) (sl' := 0) rfl rfl rfl rfl rfl rfl (c_isDigit (d := d - 1) (q := q - (1 + 19)) (by omega) (by omega) hm6 (c := m4.2.1 2 (m4.1 5)) (show (-2147483648) ≤ m4.2.1 2 (m4.1 5) ∧ m4.2.1 2 (m4.1 5) ≤ 2147483647 by omega)) (by omega) (show 1 + 19 ≤ q by omega) (Nat.le_of_ble_eq_true rfl) (Nat.le_of_ble_eq_true rfl) rfl rfl rfl ?_
        rintro z22 m23 ⟨rfl, p25⟩
        refine g_if_ne (by omega) (by omega) rfl ?_ ?_
        · intro kk26
          refine g_iload_n (n := 3) rfl rfl ?_
          refine g_bipush (by decide) rfl ?_
          refine g_imul rfl ?_
          refine g_aload_n (n := 0) rfl rfl ?_
          refine g_getf (v := vR 2) rfl (kl_1 _) rfl ?_
          refine g_iload (n := 4) rfl rfl ?_
          have h27 : 0 ≤ m4.2.1 2 (m4.1 5) ∧ m4.2.1 2 (m4.1 5) ≤ 255 := hm6.2 2 (m4.1 5) (by omega) (show m4.1 5 < (200 : Int) by omega)
          have h28 : m4.2.1 2 (m4.1 5) = m.2.1 2 (m4.1 5) := congrFun (hc7.2.1 2 rfl) _
          refine g_iald (f := m4.2.1 2) rfl (kl_2 _) (by decide) (by omega) (by omega) ?_
          refine g_iadd rfl ?_
          refine g_bipush (by decide) rfl ?_
          refine g_isub rfl ?_
          refine g_istore_n (n := 3) (lo' := [(4, vI (m4.1 5)), (0, vR 1), (1, vI a), (2, vI b)]) rfl rfl ?_
          refine g_iinc (n := 4) (lo' := [(3, vI (((0 * 10) + m4.2.1 2 (m4.1 5)) - 48)), (0, vR 1), (1, vI a), (2, vI b)]) rfl rfl rfl ?_
          refine g_goto rfl ?_
          refine g_iload (n := 4) rfl rfl ?_
          refine g_aload_n (n := 0) rfl rfl ?_
          refine g_getf (v := vI (m4.1 6)) rfl (kl_1 _) rfl ?_
          refine g_icmp_ge (by omega) (by omega) (by omega) (by omega) rfl ?_ ?_
          · intro kk29
            refine g_iload_n (n := 3) rfl rfl ?_
            refine g_iload_n (n := 1) rfl rfl ?_
            refine g_icmp_lt (by omega) (by omega) (by omega) (by omega) rfl ?_ ?_
            · intro kk30
              refine g_iconst rfl ?_
              refine g_iret rfl rfl ?_
              have hz : (-1) = NUM (m.2.1 2) (m.1 3) a b (m.1 6) := by
                unfold NUM
                rw [← p8, ← p9]
                have u1 := srt_sp (m.2.1 2 (m4.1 5))
                have u2 := srt_sp (m.2.1 2 (m4.1 5 + 1))
                unfold NU
                (repeat' split) <;> omega
              exact ⟨_, _, rfl, hm6, hf10, hz, p8, p9, by omega, by omega, by omega⟩
            · intro kk31
              refine g_iload_n (n := 3) rfl rfl ?_
              refine g_iload_n (n := 2) rfl rfl ?_
              refine g_icmp_gt (by omega) (by omega) (by omega) (by omega) rfl ?_ ?_
              · intro kk32
                refine g_iconst rfl ?_
                refine g_iret rfl rfl ?_
                have hz : (-1) = NUM (m.2.1 2) (m.1 3) a b (m.1 6) := by
                  unfold NUM
                  rw [← p8, ← p9]
                  have u1 := srt_sp (m.2.1 2 (m4.1 5))
                  have u2 := srt_sp (m.2.1 2 (m4.1 5 + 1))
                  unfold NU
                  (repeat' split) <;> omega
                exact ⟨_, _, rfl, hm6, hf10, hz, p8, p9, by omega, by omega, by omega⟩
              · intro kk33
                refine g_iload_n (n := 3) rfl rfl ?_
                refine g_goto rfl ?_
                refine g_iret rfl rfl ?_
                have hz : (((0 * 10) + m4.2.1 2 (m4.1 5)) - 48) = NUM (m.2.1 2) (m.1 3) a b (m.1 6) := by
                  unfold NUM
                  rw [← p8, ← p9]
                  have u1 := srt_sp (m.2.1 2 (m4.1 5))
                  have u2 := srt_sp (m.2.1 2 (m4.1 5 + 1))
                  unfold NU
                  (repeat' split) <;> omega
                exact ⟨_, _, rfl, hm6, hf10, hz, p8, p9, by omega, by omega, by omega⟩
          · intro kk34
            refine g_aload_n (n := 0) rfl rfl ?_
            refine g_getf (v := vR 2) rfl (kl_1 _) rfl ?_
            refine g_iload (n := 4) rfl rfl ?_
            have h35 : 0 ≤ m4.2.1 2 (m4.1 5 + 1) ∧ m4.2.1 2 (m4.1 5 + 1) ≤ 255 := hm6.2 2 (m4.1 5 + 1) (by omega) (show (m4.1 5 + 1) < (200 : Int) by omega)
            have h36 : m4.2.1 2 (m4.1 5 + 1) = m.2.1 2 (m4.1 5 + 1) := congrFun (hc7.2.1 2 rfl) _
            refine g_iald (f := m4.2.1 2) rfl (kl_2 _) (by decide) (by omega) (by omega) ?_
            refine c_sI (ps := [vI (m4.2.1 2 (m4.1 5 + 1))]) (r := []) (as := [vI (m4.2.1 2 (m4.1 5 + 1))]) (cs' := 0) (sl' := 0) rfl rfl rfl rfl rfl rfl (c_isDigit (d := d - 1) (q := q - (1 + 19)) (by omega) (by omega) hm6 (c := m4.2.1 2 (m4.1 5 + 1)) (show (-2147483648) ≤ m4.2.1 2 (m4.1 5 + 1) ∧ m4.2.1 2 (m4.1 5 + 1) ≤ 2147483647 by omega)) (by omega) (show 1 + 19 ≤ q by omega) (Nat.le_of_ble_eq_true rfl) (Nat.le_of_ble_eq_true rfl) rfl rfl rfl ?_
            rintro z37 m38 ⟨rfl, p40⟩
            refine g_if_ne (by omega) (by omega) rfl ?_ ?_
            · intro kk41
              refine g_iload_n (n := 3) rfl rfl ?_
              refine g_bipush (by decide) rfl ?_
              refine g_imul rfl ?_
              refine g_aload_n (n := 0) rfl rfl ?_
              refine g_getf (v := vR 2) rfl (kl_1 _) rfl ?_
              refine g_iload (n := 4) rfl rfl ?_
              have h42 : 0 ≤ m4.2.1 2 (m4.1 5 + 1) ∧ m4.2.1 2 (m4.1 5 + 1) ≤ 255 := hm6.2 2 (m4.1 5 + 1) (by omega) (show (m4.1 5 + 1) < (200 : Int) by omega)
              have h43 : m4.2.1 2 (m4.1 5 + 1) = m.2.1 2 (m4.1 5 + 1) := congrFun (hc7.2.1 2 rfl) _
              refine g_iald (f := m4.2.1 2) rfl (kl_2 _) (by decide) (by omega) (by omega) ?_
              refine g_iadd rfl ?_
              refine g_bipush (by decide) rfl ?_
              refine g_isub rfl ?_
              refine g_istore_n (n := 3) (lo' := [(4, vI (m4.1 5 + 1)), (0, vR 1), (1, vI a), (2, vI b)]) rfl rfl ?_
              refine g_iinc (n := 4) (lo' := [(3, vI ((((((0 * 10) + m4.2.1 2 (m4.1 5)) - 48) * 10) + m4.2.1 2 (m4.1 5 + 1)) - 48)), (0, vR 1), (1, vI a), (2, vI b)]) rfl rfl rfl ?_
              refine g_goto rfl ?_
              refine g_iload (n := 4) rfl rfl ?_
              refine g_aload_n (n := 0) rfl rfl ?_
              refine g_getf (v := vI (m4.1 6)) rfl (kl_1 _) rfl ?_
              refine g_icmp_ge (by omega) (by omega) (by omega) (by omega) rfl ?_ ?_
              · intro kk44
                refine g_iload_n (n := 3) rfl rfl ?_
                refine g_iload_n (n := 1) rfl rfl ?_
                refine g_icmp_lt (by omega) (by omega) (by omega) (by omega) rfl ?_ ?_
                · intro kk45
                  refine g_iconst rfl ?_
                  refine g_iret rfl rfl ?_
                  have hz : (-1) = NUM (m.2.1 2) (m.1 3) a b (m.1 6) := by
                    unfold NUM
                    rw [← p8, ← p9]
                    have u1 := srt_sp (m.2.1 2 (m4.1 5))
                    have u2 := srt_sp (m.2.1 2 (m4.1 5 + 1))
                    unfold NU
                    (repeat' split) <;> omega
                  exact ⟨_, _, rfl, hm6, hf10, hz, p8, p9, by omega, by omega, by omega⟩
                · intro kk46
                  refine g_iload_n (n := 3) rfl rfl ?_
                  refine g_iload_n (n := 2) rfl rfl ?_
                  refine g_icmp_gt (by omega) (by omega) (by omega) (by omega) rfl ?_ ?_
                  · intro kk47
                    refine g_iconst rfl ?_
                    refine g_iret rfl rfl ?_
                    have hz : (-1) = NUM (m.2.1 2) (m.1 3) a b (m.1 6) := by
                      unfold NUM
                      rw [← p8, ← p9]
                      have u1 := srt_sp (m.2.1 2 (m4.1 5))
                      have u2 := srt_sp (m.2.1 2 (m4.1 5 + 1))
                      unfold NU
                      (repeat' split) <;> omega
                    exact ⟨_, _, rfl, hm6, hf10, hz, p8, p9, by omega, by omega, by omega⟩
                  · intro kk48
                    refine g_iload_n (n := 3) rfl rfl ?_
                    refine g_goto rfl ?_
                    refine g_iret rfl rfl ?_
                    have hz : ((((((0 * 10) + m4.2.1 2 (m4.1 5)) - 48) * 10) + m4.2.1 2 (m4.1 5 + 1)) - 48) = NUM (m.2.1 2) (m.1 3) a b (m.1 6) := by
                      unfold NUM
                      rw [← p8, ← p9]
                      have u1 := srt_sp (m.2.1 2 (m4.1 5))
                      have u2 := srt_sp (m.2.1 2 (m4.1 5 + 1))
                      unfold NU
                      (repeat' split) <;> omega
                    exact ⟨_, _, rfl, hm6, hf10, hz, p8, p9, by omega, by omega, by omega⟩
              · intro kk49
                exfalso; omega
            · intro kk50
              refine g_iconst rfl ?_
              refine g_iret rfl rfl ?_
              have hz : (-1) = NUM (m.2.1 2) (m.1 3) a b (m.1 6) := by
                unfold NUM
                rw [← p8, ← p9]
                have u1 := srt_sp (m.2.1 2 (m4.1 5))
                have u2 := srt_sp (m.2.1 2 (m4.1 5 + 1))
                unfold NU
                (repeat' split) <;> omega
              exact ⟨_, _, rfl, hm6, hf10, hz, p8, p9, by omega, by omega, by omega⟩
        · intro kk51
          refine g_iconst rfl ?_
          refine g_iret rfl rfl ?_
          have hz : (-1) = NUM (m.2.1 2) (m.1 3) a b (m.1 6) := by
            unfold NUM
            rw [← p8, ← p9]
            have u1 := srt_sp (m.2.1 2 (m4.1 5))
            have u2 := srt_sp (m.2.1 2 (m4.1 5 + 1))
            unfold NU
            (repeat' split) <;> omega
          exact ⟨_, _, rfl, hm6, hf10, hz, p8, p9, by omega, by omega, by omega⟩
    · intro kk52
      refine g_iconst rfl ?_
      refine g_iret rfl rfl ?_
      have hz : (-1) = NUM (m.2.1 2) (m.1 3) a b (m.1 6) := by
        unfold NUM
        rw [← p8, ← p9]
        have u1 := srt_sp (m.2.1 2 (m4.1 5))
        have u2 := srt_sp (m.2.1 2 (m4.1 5 + 1))
        unfold NU
        (repeat' split) <;> omega
      exact ⟨_, _, rfl, hm6, hf10, hz, p8, p9, by omega, by omega, by omega⟩
