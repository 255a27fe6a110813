/-! ===== contracts: nights, odds ===== -/
theorem c_fill34 {V : cg_V} {d q : Nat} (hd : 0 ≤ d) (hq : 0 ≤ q) {m : kM} (hm : kI m) {v : Int} {j : Int} (h_j : 0 ≤ j ∧ j < 11) (h_v : (-9223372036854775808) ≤ v ∧ v ≤ 9223372036854775807) : cg_S V d q mJ7_fill_d0a16 [vR (35 + Int.toNat (j)), vL v] (kl m) (R_V (fun m' => (kI m') ∧ (fr [] [35, 36, 37, 38, 39, 40, 41, 42, 43, 44, 45] m m') ∧ (∀ x : Int, 0 ≤ x → x < 6 → m'.2.1 (35 + Int.toNat j) x = v) ∧ (∀ y : Nat, y ≠ 35 + Int.toNat j → m'.2.1 y = m.2.1 y))) := by
  have hf0 : fr [] [35, 36, 37, 38, 39, 40, 41, 42, 43, 44, 45] m m := fr_rf m
  refine cg_of (List.mem_of_getElem? (show ae_MT[50]? = some mJ7_fill_d0a16 from rfl)) (Nat.le_of_ble_eq_true rfl) ?_
  show cg_G V mJ7_fill_d0a16 d q _ 0 [(0, vR (35 + Int.toNat (j))), (1, vL v)] [] (kl m) 0 0
  refine g_iconst rfl ?_
  refine g_istore_n (n := 3) (lo' := [(0, vR (35 + Int.toNat (j))), (1, vL v)]) rfl rfl ?_
  refine g_aload_n (n := 0) rfl rfl ?_
  refine g_alen rfl (kl_f35 _ (show Int.toNat (j) < 11 by omega)) (by decide) (by decide) ?_
  refine g_istore (n := 4) (lo' := [(3, vI 0), (0, vR (35 + Int.toNat (j))), (1, vL v)]) rfl rfl ?_
  have L6_1 : ∀ (n6_1 : Nat) (i_1 : Int) (mL1 : kM), (kI mL1) → (fr [] [35, 36, 37, 38, 39, 40, 41, 42, 43, 44, 45] m mL1) → (0 ≤ i_1 ∧ i_1 ≤ 6) → (∀ x : Int, 0 ≤ x → x < i_1 → mL1.2.1 (35 + Int.toNat j) x = v) → (∀ y : Nat, y ≠ 35 + Int.toNat j → mL1.2.1 y = m.2.1 y) → ((6 - i_1).toNat) = n6_1 → cg_G V mJ7_fill_d0a16 d q (R_V (fun m' => (kI m') ∧ (fr [] [35, 36, 37, 38, 39, 40, 41, 42, 43, 44, 45] m m') ∧ (∀ x : Int, 0 ≤ x → x < 6 → m'.2.1 (35 + Int.toNat j) x = v) ∧ (∀ y : Nat, y ≠ 35 + Int.toNat j → m'.2.1 y = m.2.1 y))) 6 [(4, vI ((6 : Nat) : Int)), (3, vI i_1), (0, vR (35 + Int.toNat (j))), (1, vL v)] [] (kl mL1) 0 0 := by
    intro n6_1
    induction n6_1 using Nat.strongRecOn with
    | _ n6_1 ih6_1 =>
      intro i_1 mL1 hmL1 hfL1 i1 iF iG q2
      refine g_iload_n (n := 3) rfl rfl ?_
      refine g_iload (n := 4) rfl rfl ?_
      refine g_icmp_ge (by omega) (by omega) (by omega) (by omega) rfl ?_ ?_
      · intro kk3
        refine g_vret rfl rfl ?_
        exact ⟨_, rfl, hmL1, hfL1, (fun x h0 h1 => iF x h0 (by omega)), iG⟩
      · intro kk4
        refine g_aload_n (n := 0) rfl rfl ?_
        refine g_iload_n (n := 3) rfl rfl ?_
        refine g_lload_n (n := 1) rfl rfl ?_
        refine g_lAst (f := mL1.2.1 (35 + Int.toNat (j))) (m' := (kA mL1 (35 + Int.toNat (j)) (up (mL1.2.1 (35 + Int.toNat (j))) i_1 v))) rfl (kl_f35 _ (show Int.toNat (j) < 11 by omega)) (by decide) (by omega) (by omega) (kA_f35 _ _ (show Int.toNat (j) < 11 by omega)) ?_
        obtain ⟨m5, e6⟩ : ∃ x : kM, x = (kA mL1 (35 + Int.toNat (j)) (up (mL1.2.1 (35 + Int.toNat (j))) i_1 v)) := ⟨_, rfl⟩
        rw [← e6]
        have hm7 : kI m5 := by rw [e6]; exact kI_u35 hmL1 (show Int.toNat (j) < 11 by omega) rfl (by omega) (by omega)
        have hc8 : fr [] [35, 36, 37, 38, 39, 40, 41, 42, 43, 44, 45] mL1 m5 := by rw [e6]; exact fr_A (fr_rf _) (35 + Int.toNat (j)) _ (fr_c35 (show Int.toNat (j) < 11 by omega) rfl)
        have hf9 : fr [] [35, 36, 37, 38, 39, 40, 41, 42, 43, 44, 45] m m5 := fr_tr hfL1 (fr_le hc8 rfl rfl)
        have u10 : m5.2.1 (35 + Int.toNat (j)) = up (mL1.2.1 (35 + Int.toNat (j))) i_1 v := by rw [e6]; exact kA_same _ _ _
        have u11 : ∀ y : Nat, y ≠ (35 + Int.toNat (j)) → m5.2.1 y = mL1.2.1 y := fun y hy => by rw [e6]; exact kA_ne _ _ hy
        have iFn : ∀ x : Int, 0 ≤ x → x < i_1 + 1 → m5.2.1 (35 + Int.toNat j) x = v := fun x h0 h1 => by rw [u10]; by_cases q : x = i_1; exact (by rw [q, up_same]); exact (by rw [up_ne _ q]; exact iF x h0 (by omega))
        have iGn : ∀ y : Nat, y ≠ 35 + Int.toNat j → m5.2.1 y = m.2.1 y := fun y hy => (u11 y hy).trans (iG y hy)
        refine g_iinc (n := 3) (lo' := [(4, vI ((6 : Nat) : Int)), (0, vR (35 + Int.toNat (j))), (1, vL v)]) rfl rfl rfl ?_
        refine g_goto rfl ?_
        refine g_pick (lo' := [(4, vI ((6 : Nat) : Int)), (3, vI (i_1 + 1)), (0, vR (35 + Int.toNat (j))), (1, vL v)]) [1, 0, 2, 3] rfl ?_
        exact ih6_1 _ (by omega) (i_1 + 1) m5 hm7 hf9 (by omega) iFn iGn rfl
  exact L6_1 _ 0 m hm hf0 (by omega) (fun x h0 h1 => by omega) (fun _ _ => rfl) rfl
theorem c_fill46 {V : cg_V} {d q : Nat} (hd : 0 ≤ d) (hq : 0 ≤ q) {m : kM} (hm : kI m) {v : Int} {j : Int} (h_j : 0 ≤ j ∧ j < 11) (h_v : (-9223372036854775808) ≤ v ∧ v ≤ 9223372036854775807) : cg_S V d q mJ7_fill_d0a16 [vR (47 + Int.toNat (j)), vL v] (kl m) (R_V (fun m' => (kI m') ∧ (fr [] [47, 48, 49, 50, 51, 52, 53, 54, 55, 56, 57] m m') ∧ (∀ x : Int, 0 ≤ x → x < 6 → m'.2.1 (47 + Int.toNat j) x = v) ∧ (∀ y : Nat, y ≠ 47 + Int.toNat j → m'.2.1 y = m.2.1 y))) := by
  have hf0 : fr [] [47, 48, 49, 50, 51, 52, 53, 54, 55, 56, 57] m m := fr_rf m
  refine cg_of (List.mem_of_getElem? (show ae_MT[50]? = some mJ7_fill_d0a16 from rfl)) (Nat.le_of_ble_eq_true rfl) ?_
  show cg_G V mJ7_fill_d0a16 d q _ 0 [(0, vR (47 + Int.toNat (j))), (1, vL v)] [] (kl m) 0 0
  refine g_iconst rfl ?_
  refine g_istore_n (n := 3) (lo' := [(0, vR (47 + Int.toNat (j))), (1, vL v)]) rfl rfl ?_
  refine g_aload_n (n := 0) rfl rfl ?_
  refine g_alen rfl (kl_f47 _ (show Int.toNat (j) < 11 by omega)) (by decide) (by decide) ?_
  refine g_istore (n := 4) (lo' := [(3, vI 0), (0, vR (47 + Int.toNat (j))), (1, vL v)]) rfl rfl ?_
  have L6_1 : ∀ (n6_1 : Nat) (i_1 : Int) (mL1 : kM), (kI mL1) → (fr [] [47, 48, 49, 50, 51, 52, 53, 54, 55, 56, 57] m mL1) → (0 ≤ i_1 ∧ i_1 ≤ 6) → (∀ x : Int, 0 ≤ x → x < i_1 → mL1.2.1 (47 + Int.toNat j) x = v) → (∀ y : Nat, y ≠ 47 + Int.toNat j → mL1.2.1 y = m.2.1 y) → ((6 - i_1).toNat) = n6_1 → cg_G V mJ7_fill_d0a16 d q (R_V (fun m' => (kI m') ∧ (fr [] [47, 48, 49, 50, 51, 52, 53, 54, 55, 56, 57] m m') ∧ (∀ x : Int, 0 ≤ x → x < 6 → m'.2.1 (47 + Int.toNat j) x = v) ∧ (∀ y : Nat, y ≠ 47 + Int.toNat j → m'.2.1 y = m.2.1 y))) 6 [(4, vI ((6 : Nat) : Int)), (3, vI i_1), (0, vR (47 + Int.toNat (j))), (1, vL v)] [] (kl mL1) 0 0 := by
    intro n6_1
    induction n6_1 using Nat.strongRecOn with
    | _ n6_1 ih6_1 =>
      intro i_1 mL1 hmL1 hfL1 i1 iF iG q2
      refine g_iload_n (n := 3) rfl rfl ?_
      refine g_iload (n := 4) rfl rfl ?_
      refine g_icmp_ge (by omega) (by omega) (by omega) (by omega) rfl ?_ ?_
      · intro kk3
        refine g_vret rfl rfl ?_
        exact ⟨_, rfl, hmL1, hfL1, (fun x h0 h1 => iF x h0 (by omega)), iG⟩
      · intro kk4
        refine g_aload_n (n := 0) rfl rfl ?_
        refine g_iload_n (n := 3) rfl rfl ?_
        refine g_lload_n (n := 1) rfl rfl ?_
        refine g_lAst (f := mL1.2.1 (47 + Int.toNat (j))) (m' := (kA mL1 (47 + Int.toNat (j)) (up (mL1.2.1 (47 + Int.toNat (j))) i_1 v))) rfl (kl_f47 _ (show Int.toNat (j) < 11 by omega)) (by decide) (by omega) (by omega) (kA_f47 _ _ (show Int.toNat (j) < 11 by omega)) ?_
        obtain ⟨m5, e6⟩ : ∃ x : kM, x = (kA mL1 (47 + Int.toNat (j)) (up (mL1.2.1 (47 + Int.toNat (j))) i_1 v)) := ⟨_, rfl⟩
        rw [← e6]
        have hm7 : kI m5 := by rw [e6]; exact kI_u47 hmL1 (show Int.toNat (j) < 11 by omega) rfl (by omega) (by omega)
        have hc8 : fr [] [47, 48, 49, 50, 51, 52, 53, 54, 55, 56, 57] mL1 m5 := by rw [e6]; exact fr_A (fr_rf _) (47 + Int.toNat (j)) _ (fr_c47 (show Int.toNat (j) < 11 by omega) rfl)
        have hf9 : fr [] [47, 48, 49, 50, 51, 52, 53, 54, 55, 56, 57] m m5 := fr_tr hfL1 (fr_le hc8 rfl rfl)
        have u10 : m5.2.1 (47 + Int.toNat (j)) = up (mL1.2.1 (47 + Int.toNat (j))) i_1 v := by rw [e6]; exact kA_same _ _ _
        have u11 : ∀ y : Nat, y ≠ (47 + Int.toNat (j)) → m5.2.1 y = mL1.2.1 y := fun y hy => by rw [e6]; exact kA_ne _ _ hy
        have iFn : ∀ x : Int, 0 ≤ x → x < i_1 + 1 → m5.2.1 (47 + Int.toNat j) x = v := fun x h0 h1 => by rw [u10]; by_cases q : x = i_1; exact (by rw [q, up_same]); exact (by rw [up_ne _ q]; exact iF x h0 (by omega))
        have iGn : ∀ y : Nat, y ≠ 47 + Int.toNat j → m5.2.1 y = m.2.1 y := fun y hy => (u11 y hy).trans (iG y hy)
        refine g_iinc (n := 3) (lo' := [(4, vI ((6 : Nat) : Int)), (0, vR (47 + Int.toNat (j))), (1, vL v)]) rfl rfl rfl ?_
        refine g_goto rfl ?_
        refine g_pick (lo' := [(4, vI ((6 : Nat) : Int)), (3, vI (i_1 + 1)), (0, vR (47 + Int.toNat (j))), (1, vL v)]) [1, 0, 2, 3] rfl ?_
        exact ih6_1 _ (by omega) (i_1 + 1) m5 hm7 hf9 (by omega) iFn iGn rfl
  exact L6_1 _ 0 m hm hf0 (by omega) (fun x h0 h1 => by omega) (fun _ _ => rfl) rfl
theorem c_fill29 {V : cg_V} {d q : Nat} (hd : 0 ≤ d) (hq : 0 ≤ q) {m : kM} (hm : kI m) {v : Int} (h_v : (-2147483648) ≤ v ∧ v ≤ 2147483647) : cg_S V d q mJ7_fill_53178 [vR 29, vI v] (kl m) (R_V (fun m' => (kI m') ∧ (fr [] [29] m m'))) := by
  have hf0 : fr [] [29] m m := fr_rf m
  refine cg_of (List.mem_of_getElem? (show ae_MT[21]? = some mJ7_fill_53178 from rfl)) (Nat.le_of_ble_eq_true rfl) ?_
  show cg_G V mJ7_fill_53178 d q _ 0 [(0, vR 29), (1, vI v)] [] (kl m) 0 0
  refine g_iconst rfl ?_
  refine g_istore_n (n := 2) (lo' := [(0, vR 29), (1, vI v)]) rfl rfl ?_
  refine g_aload_n (n := 0) rfl rfl ?_
  refine g_alen rfl (kl_29 _) (by decide) (by decide) ?_
  refine g_istore_n (n := 3) (lo' := [(2, vI 0), (0, vR 29), (1, vI v)]) rfl rfl ?_
  have L5_1 : ∀ (n5_1 : Nat) (i_1 : Int) (mL1 : kM), (kI mL1) → (fr [] [29] m mL1) → (0 ≤ i_1 ∧ i_1 ≤ 4) → ((4 - i_1).toNat) = n5_1 → cg_G V mJ7_fill_53178 d q (R_V (fun m' => (kI m') ∧ (fr [] [29] m m'))) 5 [(3, vI ((4 : Nat) : Int)), (2, vI i_1), (0, vR 29), (1, vI v)] [] (kl mL1) 0 0 := by
    intro n5_1
    induction n5_1 using Nat.strongRecOn with
    | _ n5_1 ih5_1 =>
      intro i_1 mL1 hmL1 hfL1 i1 q2
      refine g_iload_n (n := 2) rfl rfl ?_
      refine g_iload_n (n := 3) rfl rfl ?_
      refine g_icmp_ge (by omega) (by omega) (by omega) (by omega) rfl ?_ ?_
      · intro kk3
        refine g_vret rfl rfl ?_
        exact ⟨_, rfl, hmL1, hfL1⟩
      · intro kk4
        refine g_aload_n (n := 0) rfl rfl ?_
        refine g_iload_n (n := 2) rfl rfl ?_
        refine g_iload_n (n := 1) rfl rfl ?_
        refine g_iAst (f := mL1.2.1 29) (m' := (kA mL1 29 (up (mL1.2.1 29) i_1 v))) rfl (kl_29 _) (by decide) (by omega) (by omega) (kA_29 _ _) ?_
        have hm5 : kI (kA mL1 29 (up (mL1.2.1 29) i_1 v)) := kI_U hmL1 29 rfl (show ((-2147483648) : Int) ≤ v by omega) (show v ≤ (2147483647 : Int) by omega)
        have hf6 : fr [] [29] m (kA mL1 29 (up (mL1.2.1 29) i_1 v)) := fr_A hfL1 29 _ rfl
        refine g_iinc (n := 2) (lo' := [(3, vI ((4 : Nat) : Int)), (0, vR 29), (1, vI v)]) rfl rfl rfl ?_
        refine g_goto rfl ?_
        refine g_pick (lo' := [(3, vI ((4 : Nat) : Int)), (2, vI (i_1 + 1)), (0, vR 29), (1, vI v)]) [1, 0, 2, 3] rfl ?_
        exact ih5_1 _ (by omega) (i_1 + 1) (kA mL1 29 (up (mL1.2.1 29) i_1 v)) hm5 hf6 (by omega) rfl
  exact L5_1 _ 0 m hm hf0 (by omega) rfl
theorem c_fill30 {V : cg_V} {d q : Nat} (hd : 0 ≤ d) (hq : 0 ≤ q) {m : kM} (hm : kI m) {v : Int} (h_v : (-2147483648) ≤ v ∧ v ≤ 2147483647) : cg_S V d q mJ7_fill_53178 [vR 30, vI v] (kl m) (R_V (fun m' => (kI m') ∧ (fr [] [30] m m'))) := by
  have hf0 : fr [] [30] m m := fr_rf m
  refine cg_of (List.mem_of_getElem? (show ae_MT[21]? = some mJ7_fill_53178 from rfl)) (Nat.le_of_ble_eq_true rfl) ?_
  show cg_G V mJ7_fill_53178 d q _ 0 [(0, vR 30), (1, vI v)] [] (kl m) 0 0
  refine g_iconst rfl ?_
  refine g_istore_n (n := 2) (lo' := [(0, vR 30), (1, vI v)]) rfl rfl ?_
  refine g_aload_n (n := 0) rfl rfl ?_
  refine g_alen rfl (kl_30 _) (by decide) (by decide) ?_
  refine g_istore_n (n := 3) (lo' := [(2, vI 0), (0, vR 30), (1, vI v)]) rfl rfl ?_
  have L5_1 : ∀ (n5_1 : Nat) (i_1 : Int) (mL1 : kM), (kI mL1) → (fr [] [30] m mL1) → (0 ≤ i_1 ∧ i_1 ≤ 10) → ((10 - i_1).toNat) = n5_1 → cg_G V mJ7_fill_53178 d q (R_V (fun m' => (kI m') ∧ (fr [] [30] m m'))) 5 [(3, vI ((10 : Nat) : Int)), (2, vI i_1), (0, vR 30), (1, vI v)] [] (kl mL1) 0 0 := by
    intro n5_1
    induction n5_1 using Nat.strongRecOn with
    | _ n5_1 ih5_1 =>
      intro i_1 mL1 hmL1 hfL1 i1 q2
      refine g_iload_n (n := 2) rfl rfl ?_
      refine g_iload_n (n := 3) rfl rfl ?_
      refine g_icmp_ge (by omega) (by omega) (by omega) (by omega) rfl ?_ ?_
      · intro kk3
        refine g_vret rfl rfl ?_
        exact ⟨_, rfl, hmL1, hfL1⟩
      · intro kk4
        refine g_aload_n (n := 0) rfl rfl ?_
        refine g_iload_n (n := 2) rfl rfl ?_
        refine g_iload_n (n := 1) rfl rfl ?_
        refine g_iAst (f := mL1.2.1 30) (m' := (kA mL1 30 (up (mL1.2.1 30) i_1 v))) rfl (kl_30 _) (by decide) (by omega) (by omega) (kA_30 _ _) ?_
        have hm5 : kI (kA mL1 30 (up (mL1.2.1 30) i_1 v)) := kI_U hmL1 30 rfl (show ((-2147483648) : Int) ≤ v by omega) (show v ≤ (2147483647 : Int) by omega)
        have hf6 : fr [] [30] m (kA mL1 30 (up (mL1.2.1 30) i_1 v)) := fr_A hfL1 30 _ rfl
        refine g_iinc (n := 2) (lo' := [(3, vI ((10 : Nat) : Int)), (0, vR 30), (1, vI v)]) rfl rfl rfl ?_
        refine g_goto rfl ?_
        refine g_pick (lo' := [(3, vI ((10 : Nat) : Int)), (2, vI (i_1 + 1)), (0, vR 30), (1, vI v)]) [1, 0, 2, 3] rfl ?_
        exact ih5_1 _ (by omega) (i_1 + 1) (kA mL1 30 (up (mL1.2.1 30) i_1 v)) hm5 hf6 (by omega) rfl
  exact L5_1 _ 0 m hm hf0 (by omega) rfl
theorem c_max {V : cg_V} {d q : Nat} (hd : 0 ≤ d) (hq : 0 ≤ q) {m : kM} (hm : kI m) {a b : Int} (h_a : (-9223372036854775808) ≤ a ∧ a ≤ 9223372036854775807) (h_b : (-9223372036854775808) ≤ b ∧ b ≤ 9223372036854775807) : cg_S V d q mJ9_max_f86c9 [vL a, vL b] (kl m) (R_J (fun z m' => (m = m') ∧ (-9223372036854775808 ≤ z) ∧ (z < 9223372036854775808) ∧ (z = if a < b then b else a))) := by
  refine cg_of (List.mem_of_getElem? (show ae_MT[189]? = some mJ9_max_f86c9 from rfl)) (Nat.le_of_ble_eq_true rfl) ?_
  show cg_G V mJ9_max_f86c9 d q _ 0 [(0, vL a), (2, vL b)] [] (kl m) 0 0
  refine g_lload_n (n := 0) rfl rfl ?_
  refine g_lload_n (n := 2) rfl rfl ?_
  refine g_lcmp (by omega) (by omega) (by omega) (by omega) rfl ?_
  intro z1 h2
  refine g_if_lt (by omega) (by omega) rfl ?_ ?_
  · intro kk3
    refine g_lload_n (n := 2) rfl rfl ?_
    refine g_lret rfl rfl ?_
    exact ⟨_, _, rfl, rfl, (by omega), (by omega), (by first | exact (if_pos (by omega)).symm | exact (if_neg (by omega)).symm)⟩
  · intro kk4
    refine g_lload_n (n := 0) rfl rfl ?_
    refine g_goto rfl ?_
    refine g_lret rfl rfl ?_
    exact ⟨_, _, rfl, rfl, (by omega), (by omega), (by first | exact (if_pos (by omega)).symm | exact (if_neg (by omega)).symm)⟩
theorem c_hear {V : cg_V} {d q : Nat} (hd : 0 ≤ d) (hq : 0 ≤ q) {m : kM} (hm : kI m) {a b : Int} (h_a : 0 ≤ a ∧ a ≤ 9) (h_b : 0 ≤ b ∧ b ≤ 9) : cg_S V d q mX3_hear [vR 31, vI a, vI b] (kl m) (R_I (fun z m' => (kI m') ∧ (fr [22] [32, 33] m m') ∧ ((z = 1 ∧ m.1 22 < 8 ∧ m'.1 22 = m.1 22 + 1) ∨ (z = 0 ∧ m.1 22 = 8 ∧ m'.1 22 = 8)) ∧ ((z = 1 ∧ m'.2.1 32 = up (m.2.1 32) (m.1 22) a ∧ m'.2.1 33 = up (m.2.1 33) (m.1 22) b) ∨ (z = 0 ∧ m'.2.1 32 = m.2.1 32 ∧ m'.2.1 33 = m.2.1 33)))) := by
  have hf0 : fr [22] [32, 33] m m := fr_rf m
  refine cg_of (List.mem_of_getElem? (show ae_MT[48]? = some mX3_hear from rfl)) (Nat.le_of_ble_eq_true rfl) ?_
  show cg_G V mX3_hear d q _ 0 [(0, vR 31), (1, vI a), (2, vI b)] [] (kl m) 0 0
  have h1 : 0 ≤ m.1 22 ∧ m.1 22 ≤ 8 := hm.1 22
  refine g_aload_n (n := 0) rfl rfl ?_
  refine g_getf (v := vI (m.1 22)) rfl (kl_31 _) rfl ?_
  refine g_bipush (by decide) rfl ?_
  refine g_icmp_lt (by omega) (by omega) (by decide) (by decide) rfl ?_ ?_
  · intro kk2
    refine g_aload_n (n := 0) rfl rfl ?_
    refine g_getf (v := vR 32) rfl (kl_31 _) rfl ?_
    refine g_aload_n (n := 0) rfl rfl ?_
    refine g_getf (v := vI (m.1 22)) rfl (kl_31 _) rfl ?_
    refine g_iload_n (n := 1) rfl rfl ?_
    refine g_iAst (f := m.2.1 32) (m' := (kA m 32 (up (m.2.1 32) (m.1 22) a))) rfl (kl_32 _) (by decide) (by omega) (by omega) (kA_32 _ _) ?_
    have hm3 : kI (kA m 32 (up (m.2.1 32) (m.1 22) a)) := kI_U hm 32 rfl (show ((-2147483648) : Int) ≤ a by omega) (show a ≤ (2147483647 : Int) by omega)
    have hf4 : fr [22] [32, 33] m (kA m 32 (up (m.2.1 32) (m.1 22) a)) := fr_A hf0 32 _ rfl
    refine g_aload_n (n := 0) rfl rfl ?_
    refine g_getf (v := vR 33) rfl (kl_31 _) rfl ?_
    refine g_aload_n (n := 0) rfl rfl ?_
    refine g_getf (v := vI (m.1 22)) rfl (kl_31 _) rfl ?_
    refine g_iload_n (n := 2) rfl rfl ?_
    refine g_iAst (f := m.2.1 33) (m' := (kA (kA m 32 (up (m.2.1 32) (m.1 22) a)) 33 (up (m.2.1 33) (m.1 22) b))) rfl (kl_33 _) (by decide) (by omega) (by omega) (kA_33 _ _) ?_
    have hm5 : kI (kA (kA m 32 (up (m.2.1 32) (m.1 22) a)) 33 (up (m.2.1 33) (m.1 22) b)) := kI_U hm3 33 rfl (show ((-2147483648) : Int) ≤ b by omega) (show b ≤ (2147483647 : Int) by omega)
    have hf6 : fr [22] [32, 33] m (kA (kA m 32 (up (m.2.1 32) (m.1 22) a)) 33 (up (m.2.1 33) (m.1 22) b)) := fr_A hf4 33 _ rfl
    refine g_aload_n (n := 0) rfl rfl ?_
    refine g_dup rfl rfl ?_
    refine g_getf (v := vI (m.1 22)) rfl (kl_31 _) rfl ?_
    refine g_iconst rfl ?_
    refine g_iadd rfl ?_
    refine g_putF (m' := (kF (kA (kA m 32 (up (m.2.1 32) (m.1 22) a)) 33 (up (m.2.1 33) (m.1 22) b)) 22 (m.1 22 + 1))) rfl (kl_31 _) rfl rfl rfl rfl (kF_22 _ _) ?_
    have hm7 : kI (kF (kA (kA m 32 (up (m.2.1 32) (m.1 22) a)) 33 (up (m.2.1 33) (m.1 22) b)) 22 (m.1 22 + 1)) := kI_F hm5 22 (show (0 : Int) ≤ (m.1 22 + 1) by omega) (show (m.1 22 + 1) ≤ (8 : Int) by omega)
    have hf8 : fr [22] [32, 33] m (kF (kA (kA m 32 (up (m.2.1 32) (m.1 22) a)) 33 (up (m.2.1 33) (m.1 22) b)) 22 (m.1 22 + 1)) := fr_F hf6 22 _ rfl
    refine g_iconst rfl ?_
    refine g_zret rfl rfl (by omega) ?_
    exact ⟨_, _, rfl, hm7, hf8, (by first | (refine Or.inl ⟨by omega, by omega, ?_⟩; show m.1 22 + 1 = m.1 22 + 1; omega) | omega), (by first | exact Or.inl ⟨rfl, rfl, rfl⟩ | exact Or.inr ⟨rfl, rfl, rfl⟩)⟩
  · intro kk9
    refine g_iconst rfl ?_
    refine g_zret rfl rfl (by omega) ?_
    exact ⟨_, _, rfl, hm, hf0, (by first | (refine Or.inl ⟨by omega, by omega, ?_⟩; show m.1 22 + 1 = m.1 22 + 1; omega) | omega), (by first | exact Or.inl ⟨rfl, rfl, rfl⟩ | exact Or.inr ⟨rfl, rfl, rfl⟩)⟩
theorem c_unhear {V : cg_V} {d q : Nat} (hd : 0 ≤ d) (hq : 0 ≤ q) {m : kM} (hm : kI m) : cg_S V d q mX3_unhear [vR 31] (kl m) (R_I (fun z m' => (kI m') ∧ (fr [22] [] m m') ∧ (z = m.1 22) ∧ (m'.1 22 = 0))) := by
  have hf0 : fr [22] [] m m := fr_rf m
  refine cg_of (List.mem_of_getElem? (show ae_MT[49]? = some mX3_unhear from rfl)) (Nat.le_of_ble_eq_true rfl) ?_
  show cg_G V mX3_unhear d q _ 0 [(0, vR 31)] [] (kl m) 0 0
  have h1 : 0 ≤ m.1 22 ∧ m.1 22 ≤ 8 := hm.1 22
  refine g_aload_n (n := 0) rfl rfl ?_
  refine g_getf (v := vI (m.1 22)) rfl (kl_31 _) rfl ?_
  refine g_istore_n (n := 1) (lo' := [(0, vR 31)]) rfl rfl ?_
  refine g_aload_n (n := 0) rfl rfl ?_
  refine g_iconst rfl ?_
  refine g_putF (m' := (kF m 22 0)) rfl (kl_31 _) rfl rfl rfl rfl (kF_22 _ _) ?_
  have hm2 : kI (kF m 22 0) := kI_F hm 22 (show (0 : Int) ≤ 0 by omega) (show 0 ≤ (8 : Int) by omega)
  have hf3 : fr [22] [] m (kF m 22 0) := fr_F hf0 22 _ rfl
  refine g_iload_n (n := 1) rfl rfl ?_
  refine g_iret rfl rfl ?_
  exact ⟨_, _, rfl, hm2, hf3, (by omega), rfl⟩
theorem c_roomAfter {V : cg_V} {d q : Nat} (hd : 3 ≤ d) (hq : 69 ≤ q) {m : kM} (hm : kI m) {t e f : Int} (h_t : (-2147483648) ≤ t ∧ t ≤ 2147483647) (h_e : (-2147483648) ≤ e ∧ e ≤ 2147483647) (h_f : 0 ≤ f ∧ f ≤ 5) : cg_S V d q mX3_roomAfter [vR 31, vI t, vI e, vI f] (kl m) (R_I (fun z m' => (m = m') ∧ (-1 ≤ z) ∧ (z ≤ 5) ∧ (z = cRA m t e f))) := by
  refine cg_of (List.mem_of_getElem? (show ae_MT[51]? = some mX3_roomAfter from rfl)) (Nat.le_of_ble_eq_true rfl) ?_
  show cg_G V mX3_roomAfter d q _ 0 [(0, vR 31), (1, vI t), (2, vI e), (3, vI f)] [] (kl m) 0 0
  have h22 : 0 ≤ m.1 22 ∧ m.1 22 ≤ 8 := hm.1 22
  refine g_iconst rfl ?_
  refine g_istore (n := 4) (lo' := [(0, vR 31), (1, vI t), (2, vI e), (3, vI f)]) rfl rfl ?_
  have L3_1 : ∀ (n3_1 : Nat) (i_1 : Int), (0 ≤ i_1 ∧ i_1 ≤ 8) → (i_1 ≤ m.1 22) → (nfit (m.2.1 32) (m.2.1 33) t e (Int.toNat i_1) = 1) → ((8 - i_1).toNat) = n3_1 → cg_G V mX3_roomAfter d q (R_I (fun z m' => (m = m') ∧ (-1 ≤ z) ∧ (z ≤ 5) ∧ (z = cRA m t e f))) 3 [(4, vI i_1), (0, vR 31), (1, vI t), (2, vI e), (3, vI f)] [] (kl m) 0 0 := by
    intro n3_1
    induction n3_1 using Nat.strongRecOn with
    | _ n3_1 ih3_1 =>
      intro i_1 i1 iL iN q2
      refine g_iload (n := 4) rfl rfl ?_
      refine g_aload_n (n := 0) rfl rfl ?_
      have h3 : 0 ≤ m.1 22 ∧ m.1 22 ≤ 8 := hm.1 22
      refine g_getf (v := vI (m.1 22)) rfl (kl_31 _) rfl ?_
      refine g_icmp_ge (by omega) (by omega) (by omega) (by omega) rfl ?_ ?_
      · intro kk4
        refine g_iload_n (n := 2) rfl rfl ?_
        refine g_iconst rfl ?_
        refine g_icmp_ne (by omega) (by omega) (by decide) (by decide) rfl ?_ ?_
        · intro kk5
          refine g_aload_n (n := 0) rfl rfl ?_
          refine g_getf (v := vR 3) rfl (kl_31 _) rfl ?_
          refine g_iload_n (n := 2) rfl rfl ?_
          refine g_iload_n (n := 3) rfl rfl ?_
          have h6 : 0 ≤ m.1 8 ∧ m.1 8 ≤ 10 := hm.1 8
          refine c_vI (i := 3) (ps := [vI f, vI e]) (r := []) (as := [vR 3, vI e, vI f]) (cs' := 0) (sl' := 0) rfl rfl rfl rfl rfl rfl (kl_3 _) (c_keyGoes (d := d - 1) (q := q - (5 + 19)) (by omega) (by omega) hm (a := e) (r := f) (show (-2147483648) ≤ e ∧ e ≤ 2147483647 by omega) (show (-2147483648) ≤ f ∧ f ≤ 2147483647 by omega)) (by omega) (show 5 + 19 ≤ q by omega) (Nat.le_of_ble_eq_true rfl) (Nat.le_of_ble_eq_true rfl) rfl rfl rfl ?_
          rintro z7 m8 ⟨rfl, p10, p11⟩
          refine g_iret rfl rfl ?_
          have hN : nfit (m.2.1 32) (m.2.1 33) t e (Int.toNat (m.1 22)) = 1 := by rw [show Int.toNat (m.1 22) = Int.toNat i_1 by omega]; exact iN
          exact ⟨_, _, rfl, rfl, by omega, by omega, (cRA_go hN (by omega) p11).symm⟩
        · intro kk12
          refine g_iload_n (n := 3) rfl rfl ?_
          refine g_goto rfl ?_
          refine g_iret rfl rfl ?_
          have hN : nfit (m.2.1 32) (m.2.1 33) t e (Int.toNat (m.1 22)) = 1 := by rw [show Int.toNat (m.1 22) = Int.toNat i_1 by omega]; exact iN
          exact ⟨_, _, rfl, rfl, by omega, by omega, (cRA_stay hN (by omega)).symm⟩
      · intro kk13
        refine g_aload_n (n := 0) rfl rfl ?_
        refine g_getf (v := vR 32) rfl (kl_31 _) rfl ?_
        refine g_iload (n := 4) rfl rfl ?_
        have h14 : (-2147483648) ≤ m.2.1 32 i_1 ∧ m.2.1 32 i_1 ≤ 2147483647 := hm.2 32 i_1 (by omega) (show i_1 < (8 : Int) by omega)
        refine g_iald (f := m.2.1 32) rfl (kl_32 _) (by decide) (by omega) (by omega) ?_
        refine g_iload_n (n := 1) rfl rfl ?_
        refine g_icmp_ne (by omega) (by omega) (by omega) (by omega) rfl ?_ ?_
        · intro kk15
          have nFn : nfit (m.2.1 32) (m.2.1 33) t e (Int.toNat (i_1 + 1)) = 1 := by rw [nfit_next (by omega), if_neg (by omega)]; exact iN
          refine g_iinc (n := 4) (lo' := [(0, vR 31), (1, vI t), (2, vI e), (3, vI f)]) rfl rfl rfl ?_
          refine g_goto rfl ?_
          exact ih3_1 _ (by omega) (i_1 + 1) (by omega) (by omega) nFn rfl
        · intro kk16
          refine g_aload_n (n := 0) rfl rfl ?_
          refine g_getf (v := vR 33) rfl (kl_31 _) rfl ?_
          refine g_iload (n := 4) rfl rfl ?_
          have h17 : (-2147483648) ≤ m.2.1 33 i_1 ∧ m.2.1 33 i_1 ≤ 2147483647 := hm.2 33 i_1 (by omega) (show i_1 < (8 : Int) by omega)
          refine g_iald (f := m.2.1 33) rfl (kl_33 _) (by decide) (by omega) (by omega) ?_
          refine g_iload_n (n := 2) rfl rfl ?_
          refine g_icmp_eq (by omega) (by omega) (by omega) (by omega) rfl ?_ ?_
          · intro kk18
            have nFn : nfit (m.2.1 32) (m.2.1 33) t e (Int.toNat (i_1 + 1)) = 1 := by rw [nfit_next (by omega), if_neg (by omega)]; exact iN
            refine g_iinc (n := 4) (lo' := [(0, vR 31), (1, vI t), (2, vI e), (3, vI f)]) rfl rfl rfl ?_
            refine g_goto rfl ?_
            exact ih3_1 _ (by omega) (i_1 + 1) (by omega) (by omega) nFn rfl
          · intro kk19
            refine g_iconst rfl ?_
            refine g_iret rfl rfl ?_
            exact ⟨_, _, rfl, rfl, by omega, by omega, (cRA_no (nfit_bad (i := i_1) (by omega) (by omega) (by omega) _ (by omega))).symm⟩
  exact L3_1 _ 0 (by omega) (by omega) rfl rfl
theorem c_countWaysTo {V : cg_V} {d q : Nat} (hd : 4 ≤ d) (hq : 93 ≤ q) {m : kM} (hm : kI m) {n : Int} (h_n : 1 ≤ n ∧ n ≤ 10) : cg_S V d q mX3_countWaysTo [vR 31, vI n] (kl m) (R_V (fun m' => (kI m') ∧ (fr [] [35, 36, 37, 38, 39, 40, 41, 42, 43, 44, 45] m m') ∧ (∀ j x : Int, 0 ≤ j → j ≤ n → 0 ≤ x → x < 6 → m'.2.1 (35 + Int.toNat j) x = nwr (cWT m (Int.toNat j) x)))) := by
  have hf0 : fr [] [35, 36, 37, 38, 39, 40, 41, 42, 43, 44, 45] m m := fr_rf m
  refine cg_of (List.mem_of_getElem? (show ae_MT[52]? = some mX3_countWaysTo from rfl)) (Nat.le_of_ble_eq_true rfl) ?_
  show cg_G V mX3_countWaysTo d q _ 0 [(0, vR 31), (1, vI n)] [] (kl m) 0 0
  have hR7 : 2 ≤ m.1 7 ∧ m.1 7 ≤ 6 := hm.1 7
  have hD8 : 0 ≤ m.1 8 ∧ m.1 8 ≤ 10 := hm.1 8
  refine g_aload_n (n := 0) rfl rfl ?_
  refine g_getf (v := vR 34) rfl (kl_31 _) rfl ?_
  refine g_iconst rfl ?_
  refine g_aald rfl (kl_34 _) (by decide) (by decide) (by omega) (by omega) ?_
  refine g_lconst (x := 0) (by decide) rfl ?_
  refine c_sV (ps := [vL 0, vR (35 + Int.toNat (0))]) (r := []) (as := [vR (35 + Int.toNat (0)), vL 0]) (cs' := 0) (sl' := 0) rfl rfl rfl rfl rfl rfl (c_fill34 (d := d - 1) (q := q - (5 + 19)) (by omega) (by omega) hm (j := 0) (v := 0) (show 0 ≤ 0 ∧ 0 < 11 by omega) (show (-9223372036854775808) ≤ 0 ∧ 0 ≤ 9223372036854775807 by omega)) (by omega) (show 5 + 19 ≤ q by omega) (Nat.le_of_ble_eq_true rfl) (Nat.le_of_ble_eq_true rfl) rfl rfl rfl ?_
  rintro m2 ⟨hm4, hc5, p6, p7⟩
  have hf8 : fr [] [35, 36, 37, 38, 39, 40, 41, 42, 43, 44, 45] m m2 := fr_tr hf0 (fr_le hc5 rfl rfl)
  refine g_aload_n (n := 0) rfl rfl ?_
  refine g_getf (v := vR 34) rfl (kl_31 _) rfl ?_
  refine g_iconst rfl ?_
  refine g_aald rfl (kl_34 _) (by decide) (by decide) (by omega) (by omega) ?_
  refine g_aload_n (n := 0) rfl rfl ?_
  refine g_getf (v := vR 3) rfl (kl_31 _) rfl ?_
  have h9 : 0 ≤ m2.1 12 ∧ m2.1 12 ≤ 5 := hm4.1 12
  have h10 : m2.1 12 = m.1 12 := hc5.1 12 rfl
  refine g_getf (v := vI (m2.1 12)) rfl (kl_3 _) rfl ?_
  refine g_lconst (x := 1) (by decide) rfl ?_
  refine g_lAst (f := m2.2.1 (35 + Int.toNat (0))) (m' := (kA m2 (35 + Int.toNat (0)) (up (m2.2.1 (35 + Int.toNat (0))) (m2.1 12) 1))) rfl (kl_f35 _ (show Int.toNat (0) < 11 by omega)) (by decide) (by omega) (by omega) (kA_f35 _ _ (show Int.toNat (0) < 11 by omega)) ?_
  obtain ⟨m11, e12⟩ : ∃ x : kM, x = (kA m2 (35 + Int.toNat (0)) (up (m2.2.1 (35 + Int.toNat (0))) (m2.1 12) 1)) := ⟨_, rfl⟩
  rw [← e12]
  have hm13 : kI m11 := by rw [e12]; exact kI_u35 hm4 (show Int.toNat (0) < 11 by omega) rfl (by omega) (by omega)
  have hc14 : fr [] [35, 36, 37, 38, 39, 40, 41, 42, 43, 44, 45] m2 m11 := by rw [e12]; exact fr_A (fr_rf _) (35 + Int.toNat (0)) _ (fr_c35 (show Int.toNat (0) < 11 by omega) rfl)
  have hf15 : fr [] [35, 36, 37, 38, 39, 40, 41, 42, 43, 44, 45] m m11 := fr_tr hf8 (fr_le hc14 rfl rfl)
  have h16 : m11.1 12 = m2.1 12 := hc14.1 12 rfl
  have h17 : 0 ≤ m11.1 12 ∧ m11.1 12 ≤ 5 := hm13.1 12
  have u18 : m11.2.1 (35 + Int.toNat (0)) = up (m2.2.1 (35 + Int.toNat (0))) (m2.1 12) 1 := by rw [e12]; exact kA_same _ _ _
  have u19 : ∀ y : Nat, y ≠ (35 + Int.toNat (0)) → m11.2.1 y = m2.2.1 y := fun y hy => by rw [e12]; exact kA_ne _ _ hy
  have w0 : ∀ j x : Int, 0 ≤ j → j ≤ 0 → 0 ≤ x → x < 6 → m11.2.1 (35 + Int.toNat j) x = nwr (cWT m (Int.toNat j) x) := by
    intro j x a b c d
    have e0 : j = 0 := by omega
    rw [e0, u18]
    show _ = nwr (if x = m.1 12 then 1 else 0)
    by_cases q : x = m.1 12
    · rw [if_pos q, show x = m2.1 12 by omega, up_same]; exact (nwr_id (by decide) (by decide)).symm
    · rw [if_neg q, up_ne _ (by omega), p6 x c d]; exact (nwr_id (by decide) (by decide)).symm
  refine g_iconst rfl ?_
  refine g_istore_n (n := 2) (lo' := [(0, vR 31), (1, vI n)]) rfl rfl ?_
  have L27_1 : ∀ (n27_1 : Nat) (t_1 : Int) (mL1 : kM), (kI mL1) → (fr [] [35, 36, 37, 38, 39, 40, 41, 42, 43, 44, 45] m mL1) → (0 ≤ t_1 ∧ t_1 ≤ 10) → (t_1 ≤ n) → (∀ j x : Int, 0 ≤ j → j ≤ t_1 → 0 ≤ x → x < 6 → mL1.2.1 (35 + Int.toNat j) x = nwr (cWT m (Int.toNat j) x)) → ((10 - t_1).toNat) = n27_1 → cg_G V mX3_countWaysTo d q (R_V (fun m' => (kI m') ∧ (fr [] [35, 36, 37, 38, 39, 40, 41, 42, 43, 44, 45] m m') ∧ (∀ j x : Int, 0 ≤ j → j ≤ n → 0 ≤ x → x < 6 → m'.2.1 (35 + Int.toNat j) x = nwr (cWT m (Int.toNat j) x)))) 27 [(2, vI t_1), (0, vR 31), (1, vI n)] [] (kl mL1) 0 0 := by
    intro n27_1
    induction n27_1 using Nat.strongRecOn with
    | _ n27_1 ih27_1 =>
      intro t_1 mL1 hmL1 hfL1 i20 oT oW q21
      refine g_iload_n (n := 2) rfl rfl ?_
      refine g_iload_n (n := 1) rfl rfl ?_
      refine g_icmp_ge (by omega) (by omega) (by omega) (by omega) rfl ?_ ?_
      · intro kk22
        refine g_vret rfl rfl ?_
        exact ⟨_, rfl, hmL1, hfL1, (fun j x a b c d => oW j x a (by omega) c d)⟩
      · intro kk23
        refine g_aload_n (n := 0) rfl rfl ?_
        refine g_getf (v := vR 34) rfl (kl_31 _) rfl ?_
        refine g_iload_n (n := 2) rfl rfl ?_
        refine g_iconst rfl ?_
        refine g_iadd rfl ?_
        refine g_aald rfl (kl_34 _) (by decide) (by decide) (by omega) (by omega) ?_
        refine g_lconst (x := 0) (by decide) rfl ?_
        refine c_sV (ps := [vL 0, vR (35 + Int.toNat ((t_1 + 1)))]) (r := []) (as := [vR (35 + Int.toNat ((t_1 + 1))), vL 0]) (cs' := 0) (sl' := 0) rfl rfl rfl rfl rfl rfl (c_fill34 (d := d - 1) (q := q - (5 + 19)) (by omega) (by omega) hmL1 (j := (t_1 + 1)) (v := 0) (show 0 ≤ (t_1 + 1) ∧ (t_1 + 1) < 11 by omega) (show (-9223372036854775808) ≤ 0 ∧ 0 ≤ 9223372036854775807 by omega)) (by omega) (show 5 + 19 ≤ q by omega) (Nat.le_of_ble_eq_true rfl) (Nat.le_of_ble_eq_true rfl) rfl rfl rfl ?_
        rintro m25 ⟨hm27, hc28, p29, p30⟩
        have hf31 : fr [] [35, 36, 37, 38, 39, 40, 41, 42, 43, 44, 45] m m25 := fr_tr hfL1 (fr_le hc28 rfl rfl)
        have i0 : ∀ j x : Int, 0 ≤ j → j ≤ t_1 → 0 ≤ x → x < 6 → m25.2.1 (35 + Int.toNat j) x = nwr (cWT m (Int.toNat j) x) := fun j x a b c d => by rw [p30 _ (by omega)]; exact oW j x a b c d
        have r0 : ∀ x : Int, 0 ≤ x → x < 6 → m25.2.1 (35 + Int.toNat (t_1 + 1)) x = nwr (nsm (fun a => cWT m (Int.toNat t_1) a * npl (cRA m) t_1 a x (Int.toNat (m.1 8) + 1)) (Int.toNat 0)) := fun x c d => by rw [p29 x c d]; exact (nwr_id (by decide) (by decide)).symm
        refine g_iconst rfl ?_
        refine g_istore_n (n := 3) (lo' := [(2, vI t_1), (0, vR 31), (1, vI n)]) rfl rfl ?_
        have L46_2 : ∀ (n46_2 : Nat) (f_2 : Int) (mL2 : kM), (kI mL2) → (fr [] [35, 36, 37, 38, 39, 40, 41, 42, 43, 44, 45] m mL2) → (0 ≤ f_2 ∧ f_2 ≤ 6) → (f_2 ≤ m.1 7) → (∀ j x : Int, 0 ≤ j → j ≤ t_1 → 0 ≤ x → x < 6 → mL2.2.1 (35 + Int.toNat j) x = nwr (cWT m (Int.toNat j) x)) → (∀ x : Int, 0 ≤ x → x < 6 → mL2.2.1 (35 + Int.toNat (t_1 + 1)) x = nwr (nsm (fun a => cWT m (Int.toNat t_1) a * npl (cRA m) t_1 a x (Int.toNat (m.1 8) + 1)) (Int.toNat (f_2)))) → ((6 - f_2).toNat) = n46_2 → cg_G V mX3_countWaysTo d q (R_V (fun m' => (kI m') ∧ (fr [] [35, 36, 37, 38, 39, 40, 41, 42, 43, 44, 45] m m') ∧ (∀ j x : Int, 0 ≤ j → j ≤ n → 0 ≤ x → x < 6 → m'.2.1 (35 + Int.toNat j) x = nwr (cWT m (Int.toNat j) x)))) 46 [(3, vI f_2), (2, vI t_1), (0, vR 31), (1, vI n)] [] (kl mL2) 0 0 := by
          intro n46_2
          induction n46_2 using Nat.strongRecOn with
          | _ n46_2 ih46_2 =>
            intro f_2 mL2 hmL2 hfL2 i32 iF iOld iRow q33
            refine g_iload_n (n := 3) rfl rfl ?_
            refine g_aload_n (n := 0) rfl rfl ?_
            refine g_getf (v := vR 3) rfl (kl_31 _) rfl ?_
            have h34 : 2 ≤ mL2.1 7 ∧ mL2.1 7 ≤ 6 := hmL2.1 7
            have h35 : mL2.1 7 = m.1 7 := hfL2.1 7 rfl
            refine g_getf (v := vI (mL2.1 7)) rfl (kl_3 _) rfl ?_
            refine g_icmp_ge (by omega) (by omega) (by omega) (by omega) rfl ?_ ?_
            · intro kk36
              have oWn : ∀ j x : Int, 0 ≤ j → j ≤ t_1 + 1 → 0 ≤ x → x < 6 → mL2.2.1 (35 + Int.toNat j) x = nwr (cWT m (Int.toNat j) x) := by
                intro j x a b c d
                by_cases q : j = t_1 + 1
                · rw [q, iRow x c d, cWT_s (show 0 ≤ t_1 by omega), show Int.toNat f_2 = Int.toNat (m.1 7) by omega]
                · exact iOld j x a (by omega) c d
              refine g_iinc (n := 2) (lo' := [(3, vI f_2), (0, vR 31), (1, vI n)]) rfl rfl rfl ?_
              refine g_goto rfl ?_
              refine g_pick (lo' := [(2, vI (t_1 + 1)), (0, vR 31), (1, vI n)]) [0, 2, 3] rfl ?_
              exact ih27_1 _ (by omega) (t_1 + 1) mL2 hmL2 hfL2 (by omega) (by omega) oWn rfl
            · intro kk37
              have q0 : ∀ x : Int, 0 ≤ x → x < 6 → mL2.2.1 (35 + Int.toNat (t_1 + 1)) x = nwr (nsm (fun a => cWT m (Int.toNat t_1) a * npl (cRA m) t_1 a x (Int.toNat (m.1 8) + 1)) (Int.toNat f_2) + cWT m (Int.toNat t_1) f_2 * npl (cRA m) t_1 f_2 x (Int.toNat ((-1) + 1))) := fun x c d => by rw [iRow x c d, show Int.toNat ((-1) + 1) = 0 from rfl]; show _ = nwr (_ + cWT m (Int.toNat t_1) f_2 * 0); rw [Int.mul_zero, Int.add_zero]
              refine g_iconst rfl ?_
              refine g_istore (n := 4) (lo' := [(3, vI f_2), (2, vI t_1), (0, vR 31), (1, vI n)]) rfl rfl ?_
              have L60_3 : ∀ (n60_3 : Nat) (e_3 : Int) (mL3 : kM), (kI mL3) → (fr [] [35, 36, 37, 38, 39, 40, 41, 42, 43, 44, 45] m mL3) → ((-1) ≤ e_3 ∧ e_3 ≤ 10) → (e_3 ≤ m.1 8) → (∀ j x : Int, 0 ≤ j → j ≤ t_1 → 0 ≤ x → x < 6 → mL3.2.1 (35 + Int.toNat j) x = nwr (cWT m (Int.toNat j) x)) → (∀ x : Int, 0 ≤ x → x < 6 → mL3.2.1 (35 + Int.toNat (t_1 + 1)) x = nwr (nsm (fun a => cWT m (Int.toNat t_1) a * npl (cRA m) t_1 a x (Int.toNat (m.1 8) + 1)) (Int.toNat f_2) + cWT m (Int.toNat t_1) f_2 * npl (cRA m) t_1 f_2 x (Int.toNat (e_3 + 1)))) → ((10 - e_3).toNat) = n60_3 → cg_G V mX3_countWaysTo d q (R_V (fun m' => (kI m') ∧ (fr [] [35, 36, 37, 38, 39, 40, 41, 42, 43, 44, 45] m m') ∧ (∀ j x : Int, 0 ≤ j → j ≤ n → 0 ≤ x → x < 6 → m'.2.1 (35 + Int.toNat j) x = nwr (cWT m (Int.toNat j) x)))) 60 [(4, vI e_3), (3, vI f_2), (2, vI t_1), (0, vR 31), (1, vI n)] [] (kl mL3) 0 0 := by
                intro n60_3
                induction n60_3 using Nat.strongRecOn with
                | _ n60_3 ih60_3 =>
                  intro e_3 mL3 hmL3 hfL3 i38 jE jOld jRow q39
                  refine g_iload (n := 4) rfl rfl ?_
                  refine g_aload_n (n := 0) rfl rfl ?_
                  refine g_getf (v := vR 3) rfl (kl_31 _) rfl ?_
                  have h40 : 0 ≤ mL3.1 8 ∧ mL3.1 8 ≤ 10 := hmL3.1 8
                  have h41 : mL3.1 8 = m.1 8 := hfL3.1 8 rfl
                  refine g_getf (v := vI (mL3.1 8)) rfl (kl_3 _) rfl ?_
                  refine g_icmp_ge (by omega) (by omega) (by omega) (by omega) rfl ?_ ?_
                  · intro kk42
                    have iRn : ∀ x : Int, 0 ≤ x → x < 6 → mL3.2.1 (35 + Int.toNat (t_1 + 1)) x = nwr (nsm (fun a => cWT m (Int.toNat t_1) a * npl (cRA m) t_1 a x (Int.toNat (m.1 8) + 1)) (Int.toNat (f_2 + 1))) := fun x c d => by rw [nsm_toI (show 0 ≤ f_2 by omega)]; show _ = nwr (nsm _ (Int.toNat f_2) + cWT m (Int.toNat t_1) f_2 * npl (cRA m) t_1 f_2 x (Int.toNat (m.1 8) + 1)); rw [jRow x c d, show Int.toNat (e_3 + 1) = Int.toNat (m.1 8) + 1 by omega]
                    refine g_iinc (n := 3) (lo' := [(4, vI e_3), (2, vI t_1), (0, vR 31), (1, vI n)]) rfl rfl rfl ?_
                    refine g_goto rfl ?_
                    refine g_pick (lo' := [(3, vI (f_2 + 1)), (2, vI t_1), (0, vR 31), (1, vI n)]) [0, 2, 3, 4] rfl ?_
                    exact ih46_2 _ (by omega) (f_2 + 1) mL3 hmL3 hfL3 (by omega) (by omega) jOld iRn rfl
                  · intro kk43
                    refine g_aload_n (n := 0) rfl rfl ?_
                    refine g_iload_n (n := 2) rfl rfl ?_
                    refine g_iload (n := 4) rfl rfl ?_
                    refine g_iload_n (n := 3) rfl rfl ?_
                    refine c_vI (i := 31) (ps := [vI f_2, vI e_3, vI t_1]) (r := []) (as := [vR 31, vI t_1, vI e_3, vI f_2]) (cs' := 0) (sl' := 0) rfl rfl rfl rfl rfl rfl (kl_31 _) (c_roomAfter (d := d - 1) (q := q - (5 + 19)) (by omega) (by omega) hmL3 (t := t_1) (e := e_3) (f := f_2) (show (-2147483648) ≤ t_1 ∧ t_1 ≤ 2147483647 by omega) (show (-2147483648) ≤ e_3 ∧ e_3 ≤ 2147483647 by omega) (show 0 ≤ f_2 ∧ f_2 ≤ 5 by omega)) (by omega) (show 5 + 19 ≤ q by omega) (Nat.le_of_ble_eq_true rfl) (Nat.le_of_ble_eq_true rfl) rfl rfl rfl ?_
                    rintro z44 m45 ⟨rfl, p47, p48, p49⟩
                    have eRA : cRA mL3 = cRA m := cRA_of (hfL3.1 8 rfl) (hfL3.1 22 rfl) (hfL3.2.1 4 rfl) (hfL3.2.1 5 rfl) (hfL3.2.1 6 rfl) (hfL3.2.1 32 rfl) (hfL3.2.1 33 rfl)
                    have ez : z44 = cRA m t_1 e_3 f_2 := by rw [← eRA]; exact p49
                    refine g_istore (n := 5) (lo' := [(4, vI e_3), (3, vI f_2), (2, vI t_1), (0, vR 31), (1, vI n)]) rfl rfl ?_
                    refine g_iload (n := 5) rfl rfl ?_
                    refine g_iconst rfl ?_
                    refine g_icmp_eq (by omega) (by omega) (by decide) (by decide) rfl ?_ ?_
                    · intro kk50
                      have jRn : ∀ x : Int, 0 ≤ x → x < 6 → mL3.2.1 (35 + Int.toNat (t_1 + 1)) x = nwr (nsm (fun a => cWT m (Int.toNat t_1) a * npl (cRA m) t_1 a x (Int.toNat (m.1 8) + 1)) (Int.toNat f_2) + cWT m (Int.toNat t_1) f_2 * npl (cRA m) t_1 f_2 x (Int.toNat (e_3 + 1 + 1))) := fun x c d => by rw [ns_no (by omega) c (show cRA m t_1 e_3 f_2 = -1 by omega)]; exact jRow x c d
                      have jOn := jOld
                      refine g_iinc (n := 4) (lo' := [(5, vI z44), (3, vI f_2), (2, vI t_1), (0, vR 31), (1, vI n)]) rfl rfl rfl ?_
                      refine g_goto rfl ?_
                      refine g_pick (lo' := [(4, vI (e_3 + 1)), (3, vI f_2), (2, vI t_1), (0, vR 31), (1, vI n)]) [0, 2, 3, 4, 5] rfl ?_
                      exact ih60_3 _ (by omega) (e_3 + 1) mL3 hmL3 hfL3 (by omega) (by omega) jOn jRn rfl
                    · intro kk51
                      refine g_aload_n (n := 0) rfl rfl ?_
                      refine g_getf (v := vR 34) rfl (kl_31 _) rfl ?_
                      refine g_iload_n (n := 2) rfl rfl ?_
                      refine g_iconst rfl ?_
                      refine g_iadd rfl ?_
                      refine g_aald rfl (kl_34 _) (by decide) (by decide) (by omega) (by omega) ?_
                      refine g_iload (n := 5) rfl rfl ?_
                      refine g_dup2 rfl rfl rfl ?_
                      have h52 : (-9223372036854775808) ≤ mL3.2.1 (35 + Int.toNat ((t_1 + 1))) z44 ∧ mL3.2.1 (35 + Int.toNat ((t_1 + 1))) z44 ≤ 9223372036854775807 := kI_f35 hmL3 (show Int.toNat ((t_1 + 1)) < 11 by omega) z44 (by omega) (by omega)
                      refine g_lald (f := mL3.2.1 (35 + Int.toNat ((t_1 + 1)))) rfl (kl_f35 _ (show Int.toNat ((t_1 + 1)) < 11 by omega)) (by decide) (by omega) (by omega) ?_
                      refine g_aload_n (n := 0) rfl rfl ?_
                      refine g_getf (v := vR 34) rfl (kl_31 _) rfl ?_
                      refine g_iload_n (n := 2) rfl rfl ?_
                      refine g_aald rfl (kl_34 _) (by decide) (by decide) (by omega) (by omega) ?_
                      refine g_iload_n (n := 3) rfl rfl ?_
                      have h53 : (-9223372036854775808) ≤ mL3.2.1 (35 + Int.toNat (t_1)) f_2 ∧ mL3.2.1 (35 + Int.toNat (t_1)) f_2 ≤ 9223372036854775807 := kI_f35 hmL3 (show Int.toNat (t_1) < 11 by omega) f_2 (by omega) (by omega)
                      refine g_lald (f := mL3.2.1 (35 + Int.toNat (t_1))) rfl (kl_f35 _ (show Int.toNat (t_1) < 11 by omega)) (by decide) (by omega) (by omega) ?_
                      refine g_ladd rfl ?_
                      refine g_nrmL ?_
                      intro z54 h55 h56 h57 h58
                      refine g_lAst (f := mL3.2.1 (35 + Int.toNat ((t_1 + 1)))) (m' := (kA mL3 (35 + Int.toNat ((t_1 + 1))) (up (mL3.2.1 (35 + Int.toNat ((t_1 + 1)))) z44 z54))) rfl (kl_f35 _ (show Int.toNat ((t_1 + 1)) < 11 by omega)) (by decide) (by omega) (by omega) (kA_f35 _ _ (show Int.toNat ((t_1 + 1)) < 11 by omega)) ?_
                      obtain ⟨m59, e60⟩ : ∃ x : kM, x = (kA mL3 (35 + Int.toNat ((t_1 + 1))) (up (mL3.2.1 (35 + Int.toNat ((t_1 + 1)))) z44 z54)) := ⟨_, rfl⟩
                      rw [← e60]
                      have hm61 : kI m59 := by rw [e60]; exact kI_u35 hmL3 (show Int.toNat ((t_1 + 1)) < 11 by omega) rfl (by omega) (by omega)
                      have hc62 : fr [] [35, 36, 37, 38, 39, 40, 41, 42, 43, 44, 45] mL3 m59 := by rw [e60]; exact fr_A (fr_rf _) (35 + Int.toNat ((t_1 + 1))) _ (fr_c35 (show Int.toNat ((t_1 + 1)) < 11 by omega) rfl)
                      have hf63 : fr [] [35, 36, 37, 38, 39, 40, 41, 42, 43, 44, 45] m m59 := fr_tr hfL3 (fr_le hc62 rfl rfl)
                      have h64 : m59.1 8 = mL3.1 8 := hc62.1 8 rfl
                      have h65 : 0 ≤ m59.1 8 ∧ m59.1 8 ≤ 10 := hm61.1 8
                      have u66 : m59.2.1 (35 + Int.toNat ((t_1 + 1))) = up (mL3.2.1 (35 + Int.toNat ((t_1 + 1)))) z44 z54 := by rw [e60]; exact kA_same _ _ _
                      have u67 : ∀ y : Nat, y ≠ (35 + Int.toNat ((t_1 + 1))) → m59.2.1 y = mL3.2.1 y := fun y hy => by rw [e60]; exact kA_ne _ _ hy
                      have jRn : ∀ x : Int, 0 ≤ x → x < 6 → m59.2.1 (35 + Int.toNat (t_1 + 1)) x = nwr (nsm (fun a => cWT m (Int.toNat t_1) a * npl (cRA m) t_1 a x (Int.toNat (m.1 8) + 1)) (Int.toNat f_2) + cWT m (Int.toNat t_1) f_2 * npl (cRA m) t_1 f_2 x (Int.toNat (e_3 + 1 + 1))) := by
                        intro x c d
                        rw [u66]
                        by_cases q : x = z44
                        · rw [q, up_same, ns_at (by omega) (show cRA m t_1 e_3 f_2 = z44 by omega), Int.mul_add, Int.mul_one, ← Int.add_assoc, ← nwr_add, ← jRow z44 (by omega) (by omega), ← jOld t_1 f_2 (by omega) (by omega) (by omega) (by omega)]; exact h58
                        · rw [up_ne _ q, ns_ne (by omega) (show cRA m t_1 e_3 f_2 ≠ x by omega)]; exact jRow x c d
                      have jOn : ∀ j x : Int, 0 ≤ j → j ≤ t_1 → 0 ≤ x → x < 6 → m59.2.1 (35 + Int.toNat j) x = nwr (cWT m (Int.toNat j) x) := fun j x a b c d => by rw [u67 _ (by omega)]; exact jOld j x a b c d
                      refine g_iinc (n := 4) (lo' := [(5, vI z44), (3, vI f_2), (2, vI t_1), (0, vR 31), (1, vI n)]) rfl rfl rfl ?_
                      refine g_goto rfl ?_
                      refine g_pick (lo' := [(4, vI (e_3 + 1)), (3, vI f_2), (2, vI t_1), (0, vR 31), (1, vI n)]) [0, 2, 3, 4, 5] rfl ?_
                      exact ih60_3 _ (by omega) (e_3 + 1) m59 hm61 hf63 (by omega) (by omega) jOn jRn rfl
              exact L60_3 _ (-1) mL2 hmL2 hfL2 (by omega) (by omega) iOld q0 rfl
        exact L46_2 _ 0 m25 hm27 hf31 (by omega) (by omega) i0 r0 rfl
  exact L27_1 _ 0 m11 hm13 hf15 (by omega) (by omega) w0 rfl
theorem c_countWaysOn {V : cg_V} {d q : Nat} (hd : 4 ≤ d) (hq : 93 ≤ q) {m : kM} (hm : kI m) {n : Int} (h_n : 1 ≤ n ∧ n ≤ 10) (hV : ∀ d : Int, 0 ≤ d → d < m.1 8 → m.2.1 4 d < m.1 7 ∧ m.2.1 5 d < m.1 7) : cg_S V d q mX3_countWaysOn [vR 31, vI n] (kl m) (R_V (fun m' => (kI m') ∧ (fr [] [47, 48, 49, 50, 51, 52, 53, 54, 55, 56, 57] m m') ∧ (∀ j x : Int, 0 < j → j ≤ n → 0 ≤ x → x < m.1 7 → m'.2.1 (47 + Int.toNat j) x = nwr (cWO m n (Int.toNat (n - j)) x)))) := by
  have hf0 : fr [] [47, 48, 49, 50, 51, 52, 53, 54, 55, 56, 57] m m := fr_rf m
  refine cg_of (List.mem_of_getElem? (show ae_MT[55]? = some mX3_countWaysOn from rfl)) (Nat.le_of_ble_eq_true rfl) ?_
  show cg_G V mX3_countWaysOn d q _ 0 [(0, vR 31), (1, vI n)] [] (kl m) 0 0
  have h1 : 2 ≤ m.1 7 ∧ m.1 7 ≤ 6 := hm.1 7
  have hR7 : 2 ≤ m.1 7 ∧ m.1 7 ≤ 6 := hm.1 7
  have hD8 : 0 ≤ m.1 8 ∧ m.1 8 ≤ 10 := hm.1 8
  refine g_aload_n (n := 0) rfl rfl ?_
  refine g_getf (v := vR 46) rfl (kl_31 _) rfl ?_
  refine g_iload_n (n := 1) rfl rfl ?_
  refine g_aald rfl (kl_46 _) (by decide) (by decide) (by omega) (by omega) ?_
  refine g_lconst (x := 1) (by decide) rfl ?_
  refine c_sV (ps := [vL 1, vR (47 + Int.toNat (n))]) (r := []) (as := [vR (47 + Int.toNat (n)), vL 1]) (cs' := 0) (sl' := 0) rfl rfl rfl rfl rfl rfl (c_fill46 (d := d - 1) (q := q - (5 + 19)) (by omega) (by omega) hm (j := n) (v := 1) (show 0 ≤ n ∧ n < 11 by omega) (show (-9223372036854775808) ≤ 1 ∧ 1 ≤ 9223372036854775807 by omega)) (by omega) (show 5 + 19 ≤ q by omega) (Nat.le_of_ble_eq_true rfl) (Nat.le_of_ble_eq_true rfl) rfl rfl rfl ?_
  rintro m3 ⟨hm5, hc6, p7, p8⟩
  have hf9 : fr [] [47, 48, 49, 50, 51, 52, 53, 54, 55, 56, 57] m m3 := fr_tr hf0 (fr_le hc6 rfl rfl)
  have h10 : m3.1 7 = m.1 7 := hc6.1 7 rfl
  have h11 : 2 ≤ m3.1 7 ∧ m3.1 7 ≤ 6 := hm5.1 7
  have w0 : ∀ j x : Int, n - 1 < j → j ≤ n → 0 ≤ x → x < m.1 7 → m3.2.1 (47 + Int.toNat j) x = nwr (cWO m n (Int.toNat (n - j)) x) := by
    intro j x a b c d
    have e0 : j = n := by omega
    rw [e0, p7 x c (by omega), show Int.toNat (n - n) = 0 by omega]
    exact (nwr_id (by decide) (by decide)).symm
  refine g_iload_n (n := 1) rfl rfl ?_
  refine g_iconst rfl ?_
  refine g_isub rfl ?_
  refine g_istore_n (n := 2) (lo' := [(0, vR 31), (1, vI n)]) rfl rfl ?_
  have L14_1 : ∀ (n14_1 : Nat) (t_1 : Int) (mL1 : kM), (kI mL1) → (fr [] [47, 48, 49, 50, 51, 52, 53, 54, 55, 56, 57] m mL1) → (0 ≤ t_1 ∧ t_1 ≤ 9) → (t_1 ≤ n - 1) → (∀ j x : Int, t_1 < j → j ≤ n → 0 ≤ x → x < m.1 7 → mL1.2.1 (47 + Int.toNat j) x = nwr (cWO m n (Int.toNat (n - j)) x)) → t_1.toNat = n14_1 → cg_G V mX3_countWaysOn d q (R_V (fun m' => (kI m') ∧ (fr [] [47, 48, 49, 50, 51, 52, 53, 54, 55, 56, 57] m m') ∧ (∀ j x : Int, 0 < j → j ≤ n → 0 ≤ x → x < m.1 7 → m'.2.1 (47 + Int.toNat j) x = nwr (cWO m n (Int.toNat (n - j)) x)))) 14 [(2, vI t_1), (0, vR 31), (1, vI n)] [] (kl mL1) 0 0 := by
    intro n14_1
    induction n14_1 using Nat.strongRecOn with
    | _ n14_1 ih14_1 =>
      intro t_1 mL1 hmL1 hfL1 i12 oT oW q13
      refine g_iload_n (n := 2) rfl rfl ?_
      refine g_if_le (by omega) (by omega) rfl ?_ ?_
      · intro kk14
        refine g_vret rfl rfl ?_
        exact ⟨_, rfl, hmL1, hfL1, (fun j x a b c d => oW j x (by omega) b c d)⟩
      · intro kk15
        refine g_aload_n (n := 0) rfl rfl ?_
        refine g_getf (v := vR 46) rfl (kl_31 _) rfl ?_
        refine g_iload_n (n := 2) rfl rfl ?_
        refine g_aald rfl (kl_46 _) (by decide) (by decide) (by omega) (by omega) ?_
        refine g_lconst (x := 0) (by decide) rfl ?_
        refine c_sV (ps := [vL 0, vR (47 + Int.toNat (t_1))]) (r := []) (as := [vR (47 + Int.toNat (t_1)), vL 0]) (cs' := 0) (sl' := 0) rfl rfl rfl rfl rfl rfl (c_fill46 (d := d - 1) (q := q - (5 + 19)) (by omega) (by omega) hmL1 (j := t_1) (v := 0) (show 0 ≤ t_1 ∧ t_1 < 11 by omega) (show (-9223372036854775808) ≤ 0 ∧ 0 ≤ 9223372036854775807 by omega)) (by omega) (show 5 + 19 ≤ q by omega) (Nat.le_of_ble_eq_true rfl) (Nat.le_of_ble_eq_true rfl) rfl rfl rfl ?_
        rintro m17 ⟨hm19, hc20, p21, p22⟩
        have hf23 : fr [] [47, 48, 49, 50, 51, 52, 53, 54, 55, 56, 57] m m17 := fr_tr hfL1 (fr_le hc20 rfl rfl)
        have i0 : ∀ j x : Int, t_1 < j → j ≤ n → 0 ≤ x → x < m.1 7 → m17.2.1 (47 + Int.toNat j) x = nwr (cWO m n (Int.toNat (n - j)) x) := fun j x a b c d => by rw [p22 _ (by omega)]; exact oW j x a b c d
        have d0 : ∀ x : Int, 0 ≤ x → x < 0 → m17.2.1 (47 + Int.toNat t_1) x = nwr (cWO m n (Int.toNat (n - t_1)) x) := fun x a b => by omega
        have fz0 : ∀ x : Int, 0 ≤ x → x < 6 → m17.2.1 (47 + Int.toNat t_1) x = 0 := fun x a b => p21 x a b
        refine g_iconst rfl ?_
        refine g_istore_n (n := 3) (lo' := [(2, vI t_1), (0, vR 31), (1, vI n)]) rfl rfl ?_
        have L30_2 : ∀ (n30_2 : Nat) (f_2 : Int) (mL2 : kM), (kI mL2) → (fr [] [47, 48, 49, 50, 51, 52, 53, 54, 55, 56, 57] m mL2) → (0 ≤ f_2 ∧ f_2 ≤ 6) → (f_2 ≤ m.1 7) → (∀ j x : Int, t_1 < j → j ≤ n → 0 ≤ x → x < m.1 7 → mL2.2.1 (47 + Int.toNat j) x = nwr (cWO m n (Int.toNat (n - j)) x)) → (∀ x : Int, 0 ≤ x → x < f_2 → mL2.2.1 (47 + Int.toNat t_1) x = nwr (cWO m n (Int.toNat (n - t_1)) x)) → (∀ x : Int, f_2 ≤ x → x < 6 → mL2.2.1 (47 + Int.toNat t_1) x = 0) → ((6 - f_2).toNat) = n30_2 → cg_G V mX3_countWaysOn d q (R_V (fun m' => (kI m') ∧ (fr [] [47, 48, 49, 50, 51, 52, 53, 54, 55, 56, 57] m m') ∧ (∀ j x : Int, 0 < j → j ≤ n → 0 ≤ x → x < m.1 7 → m'.2.1 (47 + Int.toNat j) x = nwr (cWO m n (Int.toNat (n - j)) x)))) 30 [(3, vI f_2), (2, vI t_1), (0, vR 31), (1, vI n)] [] (kl mL2) 0 0 := by
          intro n30_2
          induction n30_2 using Nat.strongRecOn with
          | _ n30_2 ih30_2 =>
            intro f_2 mL2 hmL2 hfL2 i24 iF iOld iDone iZ q25
            refine g_iload_n (n := 3) rfl rfl ?_
            refine g_aload_n (n := 0) rfl rfl ?_
            refine g_getf (v := vR 3) rfl (kl_31 _) rfl ?_
            have h26 : 2 ≤ mL2.1 7 ∧ mL2.1 7 ≤ 6 := hmL2.1 7
            have h27 : mL2.1 7 = m.1 7 := hfL2.1 7 rfl
            refine g_getf (v := vI (mL2.1 7)) rfl (kl_3 _) rfl ?_
            refine g_icmp_ge (by omega) (by omega) (by omega) (by omega) rfl ?_ ?_
            · intro kk28
              have oWn : ∀ j x : Int, t_1 + (-1) < j → j ≤ n → 0 ≤ x → x < m.1 7 → mL2.2.1 (47 + Int.toNat j) x = nwr (cWO m n (Int.toNat (n - j)) x) := by
                intro j x a b c d
                by_cases q : j = t_1
                · rw [q]; exact iDone x c (by omega)
                · exact iOld j x (by omega) b c d
              refine g_iinc (n := 2) (lo' := [(3, vI f_2), (0, vR 31), (1, vI n)]) rfl rfl rfl ?_
              refine g_goto rfl ?_
              refine g_pick (lo' := [(2, vI (t_1 + (-1))), (0, vR 31), (1, vI n)]) [0, 2, 3] rfl ?_
              exact ih14_1 _ (by omega) (t_1 + (-1)) mL2 hmL2 hfL2 (by omega) (by omega) oWn rfl
            · intro kk29
              have q0 : mL2.2.1 (47 + Int.toNat t_1) f_2 = nwr (nsm (fun b => npl (cRA m) t_1 f_2 b (Int.toNat ((-1) + 1)) * cWO m n (Int.toNat (n - t_1 - 1)) b) (Int.toNat (m.1 7))) := by
                rw [iZ f_2 (by omega) (by omega), nsm_0 (fun j _ _ => by show npl (cRA m) t_1 f_2 j (Int.toNat ((-1) + 1)) * _ = 0; rw [show Int.toNat ((-1) + 1) = 0 from rfl]; exact Int.zero_mul _)]
                exact (nwr_id (by decide) (by decide)).symm
              have z0 : ∀ x : Int, f_2 < x → x < 6 → mL2.2.1 (47 + Int.toNat t_1) x = 0 := fun x a b => iZ x (by omega) b
              refine g_iconst rfl ?_
              refine g_istore (n := 4) (lo' := [(3, vI f_2), (2, vI t_1), (0, vR 31), (1, vI n)]) rfl rfl ?_
              have L44_3 : ∀ (n44_3 : Nat) (e_3 : Int) (mL3 : kM), (kI mL3) → (fr [] [47, 48, 49, 50, 51, 52, 53, 54, 55, 56, 57] m mL3) → ((-1) ≤ e_3 ∧ e_3 ≤ 10) → (e_3 ≤ m.1 8) → (∀ j x : Int, t_1 < j → j ≤ n → 0 ≤ x → x < m.1 7 → mL3.2.1 (47 + Int.toNat j) x = nwr (cWO m n (Int.toNat (n - j)) x)) → (∀ x : Int, 0 ≤ x → x < f_2 → mL3.2.1 (47 + Int.toNat t_1) x = nwr (cWO m n (Int.toNat (n - t_1)) x)) → (∀ x : Int, f_2 < x → x < 6 → mL3.2.1 (47 + Int.toNat t_1) x = 0) → (mL3.2.1 (47 + Int.toNat t_1) f_2 = nwr (nsm (fun b => npl (cRA m) t_1 f_2 b (Int.toNat (e_3 + 1)) * cWO m n (Int.toNat (n - t_1 - 1)) b) (Int.toNat (m.1 7)))) → ((10 - e_3).toNat) = n44_3 → cg_G V mX3_countWaysOn d q (R_V (fun m' => (kI m') ∧ (fr [] [47, 48, 49, 50, 51, 52, 53, 54, 55, 56, 57] m m') ∧ (∀ j x : Int, 0 < j → j ≤ n → 0 ≤ x → x < m.1 7 → m'.2.1 (47 + Int.toNat j) x = nwr (cWO m n (Int.toNat (n - j)) x)))) 44 [(4, vI e_3), (3, vI f_2), (2, vI t_1), (0, vR 31), (1, vI n)] [] (kl mL3) 0 0 := by
                intro n44_3
                induction n44_3 using Nat.strongRecOn with
                | _ n44_3 ih44_3 =>
                  intro e_3 mL3 hmL3 hfL3 i30 jE jOld jDone jZ jCur q31
                  refine g_iload (n := 4) rfl rfl ?_
                  refine g_aload_n (n := 0) rfl rfl ?_
                  refine g_getf (v := vR 3) rfl (kl_31 _) rfl ?_
                  have h32 : 0 ≤ mL3.1 8 ∧ mL3.1 8 ≤ 10 := hmL3.1 8
                  have h33 : mL3.1 8 = m.1 8 := hfL3.1 8 rfl
                  refine g_getf (v := vI (mL3.1 8)) rfl (kl_3 _) rfl ?_
                  refine g_icmp_ge (by omega) (by omega) (by omega) (by omega) rfl ?_ ?_
                  · intro kk34
                    have iDn : ∀ x : Int, 0 ≤ x → x < f_2 + 1 → mL3.2.1 (47 + Int.toNat t_1) x = nwr (cWO m n (Int.toNat (n - t_1)) x) := by
                      intro x a b
                      by_cases q : x = f_2
                      · rw [q, jCur, cWO_s (show t_1 + 1 ≤ n by omega), show Int.toNat (e_3 + 1) = Int.toNat (m.1 8) + 1 by omega]
                      · exact jDone x a (by omega)
                    have iZn : ∀ x : Int, f_2 + 1 ≤ x → x < 6 → mL3.2.1 (47 + Int.toNat t_1) x = 0 := fun x a b => jZ x (by omega) b
                    refine g_iinc (n := 3) (lo' := [(4, vI e_3), (2, vI t_1), (0, vR 31), (1, vI n)]) rfl rfl rfl ?_
                    refine g_goto rfl ?_
                    refine g_pick (lo' := [(3, vI (f_2 + 1)), (2, vI t_1), (0, vR 31), (1, vI n)]) [0, 2, 3, 4] rfl ?_
                    exact ih30_2 _ (by omega) (f_2 + 1) mL3 hmL3 hfL3 (by omega) (by omega) jOld iDn iZn rfl
                  · intro kk35
                    refine g_aload_n (n := 0) rfl rfl ?_
                    refine g_iload_n (n := 2) rfl rfl ?_
                    refine g_iload (n := 4) rfl rfl ?_
                    refine g_iload_n (n := 3) rfl rfl ?_
                    refine c_vI (i := 31) (ps := [vI f_2, vI e_3, vI t_1]) (r := []) (as := [vR 31, vI t_1, vI e_3, vI f_2]) (cs' := 0) (sl' := 0) rfl rfl rfl rfl rfl rfl (kl_31 _) (c_roomAfter (d := d - 1) (q := q - (5 + 19)) (by omega) (by omega) hmL3 (t := t_1) (e := e_3) (f := f_2) (show (-2147483648) ≤ t_1 ∧ t_1 ≤ 2147483647 by omega) (show (-2147483648) ≤ e_3 ∧ e_3 ≤ 2147483647 by omega) (show 0 ≤ f_2 ∧ f_2 ≤ 5 by omega)) (by omega) (show 5 + 19 ≤ q by omega) (Nat.le_of_ble_eq_true rfl) (Nat.le_of_ble_eq_true rfl) rfl rfl rfl ?_
                    rintro z36 m37 ⟨rfl, p39, p40, p41⟩
                    have eRA : cRA mL3 = cRA m := cRA_of (hfL3.1 8 rfl) (hfL3.1 22 rfl) (hfL3.2.1 4 rfl) (hfL3.2.1 5 rfl) (hfL3.2.1 6 rfl) (hfL3.2.1 32 rfl) (hfL3.2.1 33 rfl)
                    have ez : z36 = cRA m t_1 e_3 f_2 := by rw [← eRA]; exact p41
                    have hlt : z36 < m.1 7 := by rw [ez]; exact cRA_lt (by omega) hV (by omega)
                    refine g_istore (n := 5) (lo' := [(4, vI e_3), (3, vI f_2), (2, vI t_1), (0, vR 31), (1, vI n)]) rfl rfl ?_
                    refine g_iload (n := 5) rfl rfl ?_
                    refine g_iconst rfl ?_
                    refine g_icmp_eq (by omega) (by omega) (by decide) (by decide) rfl ?_ ?_
                    · intro kk42
                      have jCn : mL3.2.1 (47 + Int.toNat t_1) f_2 = nwr (nsm (fun b => npl (cRA m) t_1 f_2 b (Int.toNat (e_3 + 1 + 1)) * cWO m n (Int.toNat (n - t_1 - 1)) b) (Int.toNat (m.1 7))) := by rw [nw_off (ρ := cRA m) (t := t_1) (a := f_2) (e := e_3) (w := cWO m n (Int.toNat (n - t_1 - 1))) (by omega) (by omega)]; exact jCur
                      have jOn := jOld
                      have jDn := jDone
                      have jZn := jZ
                      refine g_iinc (n := 4) (lo' := [(5, vI z36), (3, vI f_2), (2, vI t_1), (0, vR 31), (1, vI n)]) rfl rfl rfl ?_
                      refine g_goto rfl ?_
                      refine g_pick (lo' := [(4, vI (e_3 + 1)), (3, vI f_2), (2, vI t_1), (0, vR 31), (1, vI n)]) [0, 2, 3, 4, 5] rfl ?_
                      exact ih44_3 _ (by omega) (e_3 + 1) mL3 hmL3 hfL3 (by omega) (by omega) jOn jDn jZn jCn rfl
                    · intro kk43
                      refine g_aload_n (n := 0) rfl rfl ?_
                      refine g_getf (v := vR 46) rfl (kl_31 _) rfl ?_
                      refine g_iload_n (n := 2) rfl rfl ?_
                      refine g_aald rfl (kl_46 _) (by decide) (by decide) (by omega) (by omega) ?_
                      refine g_iload_n (n := 3) rfl rfl ?_
                      refine g_dup2 rfl rfl rfl ?_
                      have h44 : (-9223372036854775808) ≤ mL3.2.1 (47 + Int.toNat (t_1)) f_2 ∧ mL3.2.1 (47 + Int.toNat (t_1)) f_2 ≤ 9223372036854775807 := kI_f47 hmL3 (show Int.toNat (t_1) < 11 by omega) f_2 (by omega) (by omega)
                      refine g_lald (f := mL3.2.1 (47 + Int.toNat (t_1))) rfl (kl_f47 _ (show Int.toNat (t_1) < 11 by omega)) (by decide) (by omega) (by omega) ?_
                      refine g_aload_n (n := 0) rfl rfl ?_
                      refine g_getf (v := vR 46) rfl (kl_31 _) rfl ?_
                      refine g_iload_n (n := 2) rfl rfl ?_
                      refine g_iconst rfl ?_
                      refine g_iadd rfl ?_
                      refine g_aald rfl (kl_46 _) (by decide) (by decide) (by omega) (by omega) ?_
                      refine g_iload (n := 5) rfl rfl ?_
                      have h45 : (-9223372036854775808) ≤ mL3.2.1 (47 + Int.toNat ((t_1 + 1))) z36 ∧ mL3.2.1 (47 + Int.toNat ((t_1 + 1))) z36 ≤ 9223372036854775807 := kI_f47 hmL3 (show Int.toNat ((t_1 + 1)) < 11 by omega) z36 (by omega) (by omega)
                      refine g_lald (f := mL3.2.1 (47 + Int.toNat ((t_1 + 1)))) rfl (kl_f47 _ (show Int.toNat ((t_1 + 1)) < 11 by omega)) (by decide) (by omega) (by omega) ?_
                      refine g_ladd rfl ?_
                      refine g_nrmL ?_
                      intro z46 h47 h48 h49 h50
                      refine g_lAst (f := mL3.2.1 (47 + Int.toNat (t_1))) (m' := (kA mL3 (47 + Int.toNat (t_1)) (up (mL3.2.1 (47 + Int.toNat (t_1))) f_2 z46))) rfl (kl_f47 _ (show Int.toNat (t_1) < 11 by omega)) (by decide) (by omega) (by omega) (kA_f47 _ _ (show Int.toNat (t_1) < 11 by omega)) ?_
                      obtain ⟨m51, e52⟩ : ∃ x : kM, x = (kA mL3 (47 + Int.toNat (t_1)) (up (mL3.2.1 (47 + Int.toNat (t_1))) f_2 z46)) := ⟨_, rfl⟩
                      rw [← e52]
                      have hm53 : kI m51 := by rw [e52]; exact kI_u47 hmL3 (show Int.toNat (t_1) < 11 by omega) rfl (by omega) (by omega)
                      have hc54 : fr [] [47, 48, 49, 50, 51, 52, 53, 54, 55, 56, 57] mL3 m51 := by rw [e52]; exact fr_A (fr_rf _) (47 + Int.toNat (t_1)) _ (fr_c47 (show Int.toNat (t_1) < 11 by omega) rfl)
                      have hf55 : fr [] [47, 48, 49, 50, 51, 52, 53, 54, 55, 56, 57] m m51 := fr_tr hfL3 (fr_le hc54 rfl rfl)
                      have h56 : m51.1 8 = mL3.1 8 := hc54.1 8 rfl
                      have h57 : 0 ≤ m51.1 8 ∧ m51.1 8 ≤ 10 := hm53.1 8
                      have u58 : m51.2.1 (47 + Int.toNat (t_1)) = up (mL3.2.1 (47 + Int.toNat (t_1))) f_2 z46 := by rw [e52]; exact kA_same _ _ _
                      have u59 : ∀ y : Nat, y ≠ (47 + Int.toNat (t_1)) → m51.2.1 y = mL3.2.1 y := fun y hy => by rw [e52]; exact kA_ne _ _ hy
                      have jCn : m51.2.1 (47 + Int.toNat t_1) f_2 = nwr (nsm (fun b => npl (cRA m) t_1 f_2 b (Int.toNat (e_3 + 1 + 1)) * cWO m n (Int.toNat (n - t_1 - 1)) b) (Int.toNat (m.1 7))) := by
                        rw [u58, up_same, nw_on (ρ := cRA m) (t := t_1) (a := f_2) (e := e_3) (w := cWO m n (Int.toNat (n - t_1 - 1))) (by omega) (by omega) (by omega), ← nwr_add, ← jCur, ← ez, show Int.toNat (n - t_1 - 1) = Int.toNat (n - (t_1 + 1)) by omega, ← jOld (t_1 + 1) z36 (by omega) (by omega) (by omega) hlt]
                        exact h50
                      have jOn : ∀ j x : Int, t_1 < j → j ≤ n → 0 ≤ x → x < m.1 7 → m51.2.1 (47 + Int.toNat j) x = nwr (cWO m n (Int.toNat (n - j)) x) := fun j x a b c d => by rw [u59 _ (by omega)]; exact jOld j x a b c d
                      have jDn : ∀ x : Int, 0 ≤ x → x < f_2 → m51.2.1 (47 + Int.toNat t_1) x = nwr (cWO m n (Int.toNat (n - t_1)) x) := fun x a b => by rw [u58, up_ne _ (by omega)]; exact jDone x a b
                      have jZn : ∀ x : Int, f_2 < x → x < 6 → m51.2.1 (47 + Int.toNat t_1) x = 0 := fun x a b => by rw [u58, up_ne _ (by omega)]; exact jZ x a b
                      refine g_iinc (n := 4) (lo' := [(5, vI z36), (3, vI f_2), (2, vI t_1), (0, vR 31), (1, vI n)]) rfl rfl rfl ?_
                      refine g_goto rfl ?_
                      refine g_pick (lo' := [(4, vI (e_3 + 1)), (3, vI f_2), (2, vI t_1), (0, vR 31), (1, vI n)]) [0, 2, 3, 4, 5] rfl ?_
                      exact ih44_3 _ (by omega) (e_3 + 1) m51 hm53 hf55 (by omega) (by omega) jOn jDn jZn jCn rfl
              exact L44_3 _ (-1) mL2 hmL2 hfL2 (by omega) (by omega) iOld iDone z0 q0 rfl
        exact L30_2 _ 0 m17 hm19 hf23 (by omega) (by omega) i0 d0 fz0 rfl
  exact L14_1 _ (n - 1) m3 hm5 hf9 (by omega) (by omega) w0 rfl
theorem c_ways {V : cg_V} {d q : Nat} (hd : 5 ≤ d) (hq : 118 ≤ q) {m : kM} (hm : kI m) {n : Int} (h_n : 1 ≤ n ∧ n ≤ 10) : cg_S V d q mX3_ways [vR 31, vI n] (kl m) (R_J (fun z m' => (kI m') ∧ (fr [] [35, 36, 37, 38, 39, 40, 41, 42, 43, 44, 45] m m') ∧ (-9223372036854775808 ≤ z) ∧ (z < 9223372036854775808) ∧ (z = nwr (nsm (cWT m (Int.toNat n)) (Int.toNat (m.1 7)))))) := by
  have hf0 : fr [] [35, 36, 37, 38, 39, 40, 41, 42, 43, 44, 45] m m := fr_rf m
  refine cg_of (List.mem_of_getElem? (show ae_MT[53]? = some mX3_ways from rfl)) (Nat.le_of_ble_eq_true rfl) ?_
  show cg_G V mX3_ways d q _ 0 [(0, vR 31), (1, vI n)] [] (kl m) 0 0
  have h1 : 2 ≤ m.1 7 ∧ m.1 7 ≤ 6 := hm.1 7
  have hR7 : 2 ≤ m.1 7 ∧ m.1 7 ≤ 6 := hm.1 7
  refine g_aload_n (n := 0) rfl rfl ?_
  refine g_iload_n (n := 1) rfl rfl ?_
  refine c_vV (i := 31) (ps := [vI n]) (r := []) (as := [vR 31, vI n]) (cs' := 0) (sl' := 0) rfl rfl rfl rfl rfl rfl (kl_31 _) (c_countWaysTo (d := d - 1) (q := q - (6 + 19)) (by omega) (by omega) hm (n := n) (show 1 ≤ n ∧ n ≤ 10 by omega)) (by omega) (show 6 + 19 ≤ q by omega) (Nat.le_of_ble_eq_true rfl) (Nat.le_of_ble_eq_true rfl) rfl rfl rfl ?_
  rintro m3 ⟨hm5, hc6, p7⟩
  have hf8 : fr [] [35, 36, 37, 38, 39, 40, 41, 42, 43, 44, 45] m m3 := fr_tr hf0 (fr_le hc6 rfl rfl)
  have h9 : m3.1 7 = m.1 7 := hc6.1 7 rfl
  have h10 : 2 ≤ m3.1 7 ∧ m3.1 7 ≤ 6 := hm5.1 7
  refine g_lconst (x := 0) (by decide) rfl ?_
  refine g_lstore_n (n := 2) (lo' := [(0, vR 31), (1, vI n)]) rfl rfl ?_
  refine g_iconst rfl ?_
  refine g_istore (n := 4) (lo' := [(2, vL 0), (0, vR 31), (1, vI n)]) rfl rfl ?_
  have L10_1 : ∀ (n10_1 : Nat) (s_1 : Int) (r_1 : Int), ((-9223372036854775808) ≤ s_1 ∧ s_1 ≤ 9223372036854775807) → (0 ≤ r_1 ∧ r_1 ≤ 6) → (r_1 ≤ m.1 7) → (s_1 = nwr (nsm (cWT m (Int.toNat n)) (Int.toNat r_1))) → ((6 - r_1).toNat) = n10_1 → cg_G V mX3_ways d q (R_J (fun z m' => (kI m') ∧ (fr [] [35, 36, 37, 38, 39, 40, 41, 42, 43, 44, 45] m m') ∧ (-9223372036854775808 ≤ z) ∧ (z < 9223372036854775808) ∧ (z = nwr (nsm (cWT m (Int.toNat n)) (Int.toNat (m.1 7)))))) 10 [(4, vI r_1), (2, vL s_1), (0, vR 31), (1, vI n)] [] (kl m3) 0 0 := by
    intro n10_1
    induction n10_1 using Nat.strongRecOn with
    | _ n10_1 ih10_1 =>
      intro s_1 r_1 i11 i12 iR iS q13
      refine g_iload (n := 4) rfl rfl ?_
      refine g_aload_n (n := 0) rfl rfl ?_
      refine g_getf (v := vR 3) rfl (kl_31 _) rfl ?_
      refine g_getf (v := vI (m3.1 7)) rfl (kl_3 _) rfl ?_
      refine g_icmp_ge (by omega) (by omega) (by omega) (by omega) rfl ?_ ?_
      · intro kk14
        refine g_lload_n (n := 2) rfl rfl ?_
        refine g_lret rfl rfl ?_
        exact ⟨_, _, rfl, hm5, hf8, by omega, by omega, (by rw [iS, show Int.toNat r_1 = Int.toNat (m.1 7) by omega])⟩
      · intro kk15
        refine g_lload_n (n := 2) rfl rfl ?_
        refine g_aload_n (n := 0) rfl rfl ?_
        refine g_getf (v := vR 34) rfl (kl_31 _) rfl ?_
        refine g_iload_n (n := 1) rfl rfl ?_
        refine g_aald rfl (kl_34 _) (by decide) (by decide) (by omega) (by omega) ?_
        refine g_iload (n := 4) rfl rfl ?_
        have h16 : (-9223372036854775808) ≤ m3.2.1 (35 + Int.toNat (n)) r_1 ∧ m3.2.1 (35 + Int.toNat (n)) r_1 ≤ 9223372036854775807 := kI_f35 hm5 (show Int.toNat (n) < 11 by omega) r_1 (by omega) (by omega)
        refine g_lald (f := m3.2.1 (35 + Int.toNat (n))) rfl (kl_f35 _ (show Int.toNat (n) < 11 by omega)) (by decide) (by omega) (by omega) ?_
        refine g_ladd rfl ?_
        refine g_nrmL ?_
        intro z17 h18 h19 h20 h21
        have sN : z17 = nwr (nsm (cWT m (Int.toNat n)) (Int.toNat (r_1 + 1))) := nsm_st (by omega) iS (p7 n r_1 (by omega) (by omega) (by omega) (by omega)) h21
        refine g_lstore_n (n := 2) (lo' := [(4, vI r_1), (0, vR 31), (1, vI n)]) rfl rfl ?_
        refine g_iinc (n := 4) (lo' := [(2, vL z17), (0, vR 31), (1, vI n)]) rfl rfl rfl ?_
        refine g_goto rfl ?_
        exact ih10_1 _ (by omega) z17 (r_1 + 1) (by omega) (by omega) (by omega) sN rfl
  exact L10_1 _ 0 0 (by omega) (by omega) (by omega) (nwr_id (by decide) (by decide)).symm rfl
theorem c_roomsBehind {V : cg_V} {d q : Nat} (hd : 5 ≤ d) (hq : 118 ≤ q) {m : kM} (hm : kI m) {n : Int} (h_n : 1 ≤ n ∧ n ≤ 10) : cg_S V d q mX3_roomsBehind [vR 31, vI n] (kl m) (R_I (fun z m' => (kI m') ∧ (fr [] [35, 36, 37, 38, 39, 40, 41, 42, 43, 44, 45] m m') ∧ (-2147483648 ≤ z) ∧ (z < 2147483648) ∧ (z = nbt (fun x => nwr (cWT m (Int.toNat n) x)) (Int.toNat (m.1 7))))) := by
  have hf0 : fr [] [35, 36, 37, 38, 39, 40, 41, 42, 43, 44, 45] m m := fr_rf m
  refine cg_of (List.mem_of_getElem? (show ae_MT[54]? = some mX3_roomsBehind from rfl)) (Nat.le_of_ble_eq_true rfl) ?_
  show cg_G V mX3_roomsBehind d q _ 0 [(0, vR 31), (1, vI n)] [] (kl m) 0 0
  have h1 : 2 ≤ m.1 7 ∧ m.1 7 ≤ 6 := hm.1 7
  have hR7 : 2 ≤ m.1 7 ∧ m.1 7 ≤ 6 := hm.1 7
  refine g_aload_n (n := 0) rfl rfl ?_
  refine g_iload_n (n := 1) rfl rfl ?_
  refine c_vV (i := 31) (ps := [vI n]) (r := []) (as := [vR 31, vI n]) (cs' := 0) (sl' := 0) rfl rfl rfl rfl rfl rfl (kl_31 _) (c_countWaysTo (d := d - 1) (q := q - (6 + 19)) (by omega) (by omega) hm (n := n) (show 1 ≤ n ∧ n ≤ 10 by omega)) (by omega) (show 6 + 19 ≤ q by omega) (Nat.le_of_ble_eq_true rfl) (Nat.le_of_ble_eq_true rfl) rfl rfl rfl ?_
  rintro m3 ⟨hm5, hc6, p7⟩
  have hf8 : fr [] [35, 36, 37, 38, 39, 40, 41, 42, 43, 44, 45] m m3 := fr_tr hf0 (fr_le hc6 rfl rfl)
  have h9 : m3.1 7 = m.1 7 := hc6.1 7 rfl
  have h10 : 2 ≤ m3.1 7 ∧ m3.1 7 ≤ 6 := hm5.1 7
  refine g_iconst rfl ?_
  refine g_istore_n (n := 2) (lo' := [(0, vR 31), (1, vI n)]) rfl rfl ?_
  refine g_iconst rfl ?_
  refine g_istore_n (n := 3) (lo' := [(2, vI 0), (0, vR 31), (1, vI n)]) rfl rfl ?_
  have L9_1 : ∀ (n9_1 : Nat) (b_1 : Int) (r_1 : Int), (0 ≤ b_1 ∧ b_1 ≤ 63) → (0 ≤ r_1 ∧ r_1 ≤ 6) → (r_1 ≤ m.1 7) → (b_1 = nbt (fun x => nwr (cWT m (Int.toNat n) x)) (Int.toNat r_1)) → ((6 - r_1).toNat) = n9_1 → cg_G V mX3_roomsBehind d q (R_I (fun z m' => (kI m') ∧ (fr [] [35, 36, 37, 38, 39, 40, 41, 42, 43, 44, 45] m m') ∧ (-2147483648 ≤ z) ∧ (z < 2147483648) ∧ (z = nbt (fun x => nwr (cWT m (Int.toNat n) x)) (Int.toNat (m.1 7))))) 9 [(3, vI r_1), (2, vI b_1), (0, vR 31), (1, vI n)] [] (kl m3) 0 0 := by
    intro n9_1
    induction n9_1 using Nat.strongRecOn with
    | _ n9_1 ih9_1 =>
      intro b_1 r_1 i11 i12 iR iB q13
      refine g_iload_n (n := 3) rfl rfl ?_
      refine g_aload_n (n := 0) rfl rfl ?_
      refine g_getf (v := vR 3) rfl (kl_31 _) rfl ?_
      refine g_getf (v := vI (m3.1 7)) rfl (kl_3 _) rfl ?_
      refine g_icmp_ge (by omega) (by omega) (by omega) (by omega) rfl ?_ ?_
      · intro kk14
        refine g_iload_n (n := 2) rfl rfl ?_
        refine g_iret rfl rfl ?_
        exact ⟨_, _, rfl, hm5, hf8, by omega, by omega, (by rw [iB, show Int.toNat r_1 = Int.toNat (m.1 7) by omega])⟩
      · intro kk15
        refine g_aload_n (n := 0) rfl rfl ?_
        refine g_getf (v := vR 34) rfl (kl_31 _) rfl ?_
        refine g_iload_n (n := 1) rfl rfl ?_
        refine g_aald rfl (kl_34 _) (by decide) (by decide) (by omega) (by omega) ?_
        refine g_iload_n (n := 3) rfl rfl ?_
        have h16 : (-9223372036854775808) ≤ m3.2.1 (35 + Int.toNat (n)) r_1 ∧ m3.2.1 (35 + Int.toNat (n)) r_1 ≤ 9223372036854775807 := kI_f35 hm5 (show Int.toNat (n) < 11 by omega) r_1 (by omega) (by omega)
        refine g_lald (f := m3.2.1 (35 + Int.toNat (n))) rfl (kl_f35 _ (show Int.toNat (n) < 11 by omega)) (by decide) (by omega) (by omega) ?_
        refine g_lconst (x := 0) (by decide) rfl ?_
        refine g_lcmp (by omega) (by omega) (by decide) (by decide) rfl ?_
        intro z17 h18
        refine g_if_le (by omega) (by omega) rfl ?_ ?_
        · intro kk19
          have bN : b_1 = nbt (fun x => nwr (cWT m (Int.toNat n) x)) (Int.toNat (r_1 + 1)) := nbt_neg (h := (fun x => nwr (cWT m (Int.toNat n) x))) (by omega) iB (by show ¬ 0 < nwr (cWT m (Int.toNat n) r_1); rw [← p7 n r_1 (by omega) (by omega) (by omega) (by omega)]; omega)
          refine g_iinc (n := 3) (lo' := [(2, vI b_1), (0, vR 31), (1, vI n)]) rfl rfl rfl ?_
          refine g_goto rfl ?_
          exact ih9_1 _ (by omega) b_1 (r_1 + 1) (by omega) (by omega) (by omega) bN rfl
        · intro kk20
          refine g_iload_n (n := 2) rfl rfl ?_
          refine g_iconst rfl ?_
          refine g_iload_n (n := 3) rfl rfl ?_
          refine g_ishl rfl ?_
          intro z21 h22 h23 h24
          refine g_ior rfl ?_
          intro z26 h27 h28 h29
          have h30 : z26 = stb b_1 r_1 := b_stb h22 h27 (by omega) (by omega) (by omega) (by omega)
          have h31 := b_stb_rng (u := b_1) (r := r_1) (by omega) (by omega) (by omega) (by omega)
          refine g_istore_n (n := 2) (lo' := [(3, vI r_1), (0, vR 31), (1, vI n)]) rfl rfl ?_
          have bN : z26 = nbt (fun x => nwr (cWT m (Int.toNat n) x)) (Int.toNat (r_1 + 1)) := nbt_pos (h := (fun x => nwr (cWT m (Int.toNat n) x))) (by omega) iB (by show 0 < nwr (cWT m (Int.toNat n) r_1); rw [← p7 n r_1 (by omega) (by omega) (by omega) (by omega)]; omega) h30
          refine g_iinc (n := 3) (lo' := [(2, vI z26), (0, vR 31), (1, vI n)]) rfl rfl rfl ?_
          refine g_goto rfl ?_
          exact ih9_1 _ (by omega) z26 (r_1 + 1) (by omega) (by omega) (by omega) bN rfl
  exact L9_1 _ 0 0 (by omega) (by omega) (by omega) rfl rfl
theorem c_mostWaysBehind {V : cg_V} {d q : Nat} (hd : 1 ≤ d) (hq : 23 ≤ q) {m : kM} (hm : kI m) {n : Int} (h_n : 1 ≤ n ∧ n ≤ 10) : cg_S V d q mX3_mostWaysBehind [vR 31, vI n] (kl m) (R_J (fun z m' => (m = m') ∧ (-9223372036854775808 ≤ z) ∧ (z < 9223372036854775808) ∧ (z = nmx (fun x => nwr (m.2.1 (35 + Int.toNat n) x * m.2.1 (47 + Int.toNat n) x)) (Int.toNat (m.1 7))))) := by
  refine cg_of (List.mem_of_getElem? (show ae_MT[56]? = some mX3_mostWaysBehind from rfl)) (Nat.le_of_ble_eq_true rfl) ?_
  show cg_G V mX3_mostWaysBehind d q _ 0 [(0, vR 31), (1, vI n)] [] (kl m) 0 0
  have h1 : 2 ≤ m.1 7 ∧ m.1 7 ≤ 6 := hm.1 7
  have hR7 : 2 ≤ m.1 7 ∧ m.1 7 ≤ 6 := hm.1 7
  refine g_lconst (x := 0) (by decide) rfl ?_
  refine g_lstore_n (n := 2) (lo' := [(0, vR 31), (1, vI n)]) rfl rfl ?_
  refine g_iconst rfl ?_
  refine g_istore (n := 4) (lo' := [(2, vL 0), (0, vR 31), (1, vI n)]) rfl rfl ?_
  have L5_1 : ∀ (n5_1 : Nat) (s_1 : Int) (r_1 : Int), ((-9223372036854775808) ≤ s_1 ∧ s_1 ≤ 9223372036854775807) → (0 ≤ r_1 ∧ r_1 ≤ 6) → (r_1 ≤ m.1 7) → (s_1 = nmx (fun x => nwr (m.2.1 (35 + Int.toNat n) x * m.2.1 (47 + Int.toNat n) x)) (Int.toNat r_1)) → ((6 - r_1).toNat) = n5_1 → cg_G V mX3_mostWaysBehind d q (R_J (fun z m' => (m = m') ∧ (-9223372036854775808 ≤ z) ∧ (z < 9223372036854775808) ∧ (z = nmx (fun x => nwr (m.2.1 (35 + Int.toNat n) x * m.2.1 (47 + Int.toNat n) x)) (Int.toNat (m.1 7))))) 5 [(4, vI r_1), (2, vL s_1), (0, vR 31), (1, vI n)] [] (kl m) 0 0 := by
    intro n5_1
    induction n5_1 using Nat.strongRecOn with
    | _ n5_1 ih5_1 =>
      intro s_1 r_1 i2 i3 iR iS q4
      refine g_iload (n := 4) rfl rfl ?_
      refine g_aload_n (n := 0) rfl rfl ?_
      refine g_getf (v := vR 3) rfl (kl_31 _) rfl ?_
      refine g_getf (v := vI (m.1 7)) rfl (kl_3 _) rfl ?_
      refine g_icmp_ge (by omega) (by omega) (by omega) (by omega) rfl ?_ ?_
      · intro kk5
        refine g_lload_n (n := 2) rfl rfl ?_
        refine g_lret rfl rfl ?_
        exact ⟨_, _, rfl, rfl, by omega, by omega, (by rw [iS, show Int.toNat r_1 = Int.toNat (m.1 7) by omega])⟩
      · intro kk6
        refine g_lload_n (n := 2) rfl rfl ?_
        refine g_aload_n (n := 0) rfl rfl ?_
        refine g_getf (v := vR 34) rfl (kl_31 _) rfl ?_
        refine g_iload_n (n := 1) rfl rfl ?_
        refine g_aald rfl (kl_34 _) (by decide) (by decide) (by omega) (by omega) ?_
        refine g_iload (n := 4) rfl rfl ?_
        have h7 : (-9223372036854775808) ≤ m.2.1 (35 + Int.toNat (n)) r_1 ∧ m.2.1 (35 + Int.toNat (n)) r_1 ≤ 9223372036854775807 := kI_f35 hm (show Int.toNat (n) < 11 by omega) r_1 (by omega) (by omega)
        refine g_lald (f := m.2.1 (35 + Int.toNat (n))) rfl (kl_f35 _ (show Int.toNat (n) < 11 by omega)) (by decide) (by omega) (by omega) ?_
        refine g_aload_n (n := 0) rfl rfl ?_
        refine g_getf (v := vR 46) rfl (kl_31 _) rfl ?_
        refine g_iload_n (n := 1) rfl rfl ?_
        refine g_aald rfl (kl_46 _) (by decide) (by decide) (by omega) (by omega) ?_
        refine g_iload (n := 4) rfl rfl ?_
        have h8 : (-9223372036854775808) ≤ m.2.1 (47 + Int.toNat (n)) r_1 ∧ m.2.1 (47 + Int.toNat (n)) r_1 ≤ 9223372036854775807 := kI_f47 hm (show Int.toNat (n) < 11 by omega) r_1 (by omega) (by omega)
        refine g_lald (f := m.2.1 (47 + Int.toNat (n))) rfl (kl_f47 _ (show Int.toNat (n) < 11 by omega)) (by decide) (by omega) (by omega) ?_
        refine g_lmul rfl ?_
        refine g_nrmL ?_
        intro z9 h10 h11 h12 h13
        refine c_sL (ps := [vL z9, vL s_1]) (r := []) (as := [vL s_1, vL z9]) (cs' := 0) (sl' := 0) rfl rfl rfl rfl rfl rfl (c_max (d := d - 1) (q := q - (4 + 19)) (by omega) (by omega) hm (a := s_1) (b := z9) (show (-9223372036854775808) ≤ s_1 ∧ s_1 ≤ 9223372036854775807 by omega) (show (-9223372036854775808) ≤ z9 ∧ z9 ≤ 9223372036854775807 by omega)) (by omega) (show 4 + 19 ≤ q by omega) (Nat.le_of_ble_eq_true rfl) (Nat.le_of_ble_eq_true rfl) rfl rfl rfl ?_
        rintro z14 m15 ⟨rfl, p17, p18, p19⟩
        have sN : z14 = nmx (fun x => nwr (m.2.1 (35 + Int.toNat n) x * m.2.1 (47 + Int.toNat n) x)) (Int.toNat (r_1 + 1)) := nmx_st (h := (fun x => nwr (m.2.1 (35 + Int.toNat n) x * m.2.1 (47 + Int.toNat n) x))) (by omega) iS h13 p19
        refine g_lstore_n (n := 2) (lo' := [(4, vI r_1), (0, vR 31), (1, vI n)]) rfl rfl ?_
        refine g_iinc (n := 4) (lo' := [(2, vL z14), (0, vR 31), (1, vI n)]) rfl rfl rfl ?_
        refine g_goto rfl ?_
        exact ih5_1 _ (by omega) z14 (r_1 + 1) (by omega) (by omega) (by omega) sN rfl
  exact L5_1 _ 0 0 (by omega) (by omega) (by omega) rfl rfl
theorem c_bestMinute {V : cg_V} {d q : Nat} (hd : 5 ≤ d) (hq : 118 ≤ q) {m : kM} (hm : kI m) {n : Int} (h_n : 1 ≤ n ∧ n ≤ 10) (hV : ∀ d : Int, 0 ≤ d → d < m.1 8 → m.2.1 4 d < m.1 7 ∧ m.2.1 5 d < m.1 7) : cg_S V d q mX3_bestMinute [vR 31, vI n] (kl m) (R_I (fun z m' => (kI m') ∧ (fr [] [35, 36, 37, 38, 39, 40, 41, 42, 43, 44, 45, 47, 48, 49, 50, 51, 52, 53, 54, 55, 56, 57] m m') ∧ (-1 ≤ z) ∧ (z ≤ 9) ∧ (z = (nbm (cQ m n) (Int.toNat n)).1))) := by
  have hf0 : fr [] [35, 36, 37, 38, 39, 40, 41, 42, 43, 44, 45, 47, 48, 49, 50, 51, 52, 53, 54, 55, 56, 57] m m := fr_rf m
  refine cg_of (List.mem_of_getElem? (show ae_MT[57]? = some mX3_bestMinute from rfl)) (Nat.le_of_ble_eq_true rfl) ?_
  show cg_G V mX3_bestMinute d q _ 0 [(0, vR 31), (1, vI n)] [] (kl m) 0 0
  have hR7 : 2 ≤ m.1 7 ∧ m.1 7 ≤ 6 := hm.1 7
  refine g_aload_n (n := 0) rfl rfl ?_
  refine g_iload_n (n := 1) rfl rfl ?_
  refine c_vV (i := 31) (ps := [vI n]) (r := []) (as := [vR 31, vI n]) (cs' := 0) (sl' := 0) rfl rfl rfl rfl rfl rfl (kl_31 _) (c_countWaysTo (d := d - 1) (q := q - (6 + 19)) (by omega) (by omega) hm (n := n) (show 1 ≤ n ∧ n ≤ 10 by omega)) (by omega) (show 6 + 19 ≤ q by omega) (Nat.le_of_ble_eq_true rfl) (Nat.le_of_ble_eq_true rfl) rfl rfl rfl ?_
  rintro m2 ⟨hm4, hc5, p6⟩
  have hf7 : fr [] [35, 36, 37, 38, 39, 40, 41, 42, 43, 44, 45, 47, 48, 49, 50, 51, 52, 53, 54, 55, 56, 57] m m2 := fr_tr hf0 (fr_le hc5 rfl rfl)
  refine g_aload_n (n := 0) rfl rfl ?_
  refine g_iload_n (n := 1) rfl rfl ?_
  have h8 : 2 ≤ m2.1 7 ∧ m2.1 7 ≤ 6 := hm4.1 7
  have h9 : m2.1 7 = m.1 7 := hc5.1 7 rfl
  refine c_vV (i := 31) (ps := [vI n]) (r := []) (as := [vR 31, vI n]) (cs' := 0) (sl' := 0) rfl rfl rfl rfl rfl rfl (kl_31 _) (c_countWaysOn (d := d - 1) (q := q - (6 + 19)) (by omega) (by omega) hm4 (n := n) (show 1 ≤ n ∧ n ≤ 10 by omega) (fun d a b => by have c2 := hc5; rw [c2.2.1 4 rfl, c2.2.1 5 rfl, c2.1 7 rfl]; exact hV d a (by have := c2.1 8 rfl; omega))) (by omega) (show 6 + 19 ≤ q by omega) (Nat.le_of_ble_eq_true rfl) (Nat.le_of_ble_eq_true rfl) rfl rfl rfl ?_
  rintro m11 ⟨hm13, hc14, p15⟩
  have hf16 : fr [] [35, 36, 37, 38, 39, 40, 41, 42, 43, 44, 45, 47, 48, 49, 50, 51, 52, 53, 54, 55, 56, 57] m m11 := fr_tr hf7 (fr_le hc14 rfl rfl)
  have h17 : m11.1 7 = m2.1 7 := hc14.1 7 rfl
  have h18 : 2 ≤ m11.1 7 ∧ m11.1 7 ≤ 6 := hm13.1 7
  have eRA2 : cRA m2 = cRA m := cRA_of (hc5.1 8 rfl) (hc5.1 22 rfl) (hc5.2.1 4 rfl) (hc5.2.1 5 rfl) (hc5.2.1 6 rfl) (hc5.2.1 32 rfl) (hc5.2.1 33 rfl)
  have eWO : cWO m2 n = cWO m n := cWO_of (hc5.1 7 rfl) (hc5.1 8 rfl) eRA2 n
  have e7 : m11.1 7 = m.1 7 := (hc14.1 7 rfl).trans (hc5.1 7 rfl)
  have hQ : ∀ g : Int, 1 ≤ g → g ≤ n → nmx (fun x => nwr (m11.2.1 (35 + Int.toNat g) x * m11.2.1 (47 + Int.toNat g) x)) (Int.toNat (m11.1 7)) = cQ m n g := by
    intro g g1 g2
    unfold cQ
    rw [e7]
    refine nmx_ext (fun j j0 j1 => ?_)
    show nwr (m11.2.1 (35 + Int.toNat g) j * m11.2.1 (47 + Int.toNat g) j) = nwr (cWT m (Int.toNat g) j * cWO m n (Int.toNat (n - g)) j)
    rw [hc14.2.1 (35 + Int.toNat g) (fr_n35 (show Int.toNat g < 11 by omega) rfl), p6 g j (by omega) g2 j0 (by omega), p15 g j (by omega) g2 j0 (by have := hc5.1 7 rfl; omega), eWO, nwr_mul]
  refine g_iconst rfl ?_
  refine g_istore_n (n := 2) (lo' := [(0, vR 31), (1, vI n)]) rfl rfl ?_
  refine g_lconst (x := 0) (by decide) rfl ?_
  refine g_lstore_n (n := 3) (lo' := [(2, vI (-1)), (0, vR 31), (1, vI n)]) rfl rfl ?_
  refine g_iconst rfl ?_
  refine g_istore (n := 5) (lo' := [(3, vL 0), (2, vI (-1)), (0, vR 31), (1, vI n)]) rfl rfl ?_
  have L17_1 : ∀ (n17_1 : Nat) (b_1 : Int) (f_1 : Int) (t_1 : Int), ((-1) ≤ b_1 ∧ b_1 ≤ 9) → ((-9223372036854775808) ≤ f_1 ∧ f_1 ≤ 9223372036854775807) → (0 ≤ t_1 ∧ t_1 ≤ 10) → (t_1 ≤ n) → (b_1 = (nbm (cQ m n) (Int.toNat t_1)).1) → (f_1 = (nbm (cQ m n) (Int.toNat t_1)).2) → ((10 - t_1).toNat) = n17_1 → cg_G V mX3_bestMinute d q (R_I (fun z m' => (kI m') ∧ (fr [] [35, 36, 37, 38, 39, 40, 41, 42, 43, 44, 45, 47, 48, 49, 50, 51, 52, 53, 54, 55, 56, 57] m m') ∧ (-1 ≤ z) ∧ (z ≤ 9) ∧ (z = (nbm (cQ m n) (Int.toNat n)).1))) 17 [(5, vI t_1), (3, vL f_1), (2, vI b_1), (0, vR 31), (1, vI n)] [] (kl m11) 0 0 := by
    intro n17_1
    induction n17_1 using Nat.strongRecOn with
    | _ n17_1 ih17_1 =>
      intro b_1 f_1 t_1 i19 i20 i21 iT iB iV q22
      refine g_iload (n := 5) rfl rfl ?_
      refine g_iload_n (n := 1) rfl rfl ?_
      refine g_icmp_ge (by omega) (by omega) (by omega) (by omega) rfl ?_ ?_
      · intro kk23
        refine g_iload_n (n := 2) rfl rfl ?_
        refine g_iret rfl rfl ?_
        exact ⟨_, _, rfl, hm13, hf16, by omega, by omega, (by rw [show Int.toNat n = Int.toNat t_1 by omega]; exact iB)⟩
      · intro kk24
        refine g_aload_n (n := 0) rfl rfl ?_
        refine g_iload (n := 5) rfl rfl ?_
        refine g_iconst rfl ?_
        refine g_iadd rfl ?_
        refine c_vL (i := 31) (ps := [vI (t_1 + 1)]) (r := []) (as := [vR 31, vI (t_1 + 1)]) (cs' := 0) (sl' := 0) rfl rfl rfl rfl rfl rfl (kl_31 _) (c_mostWaysBehind (d := d - 1) (q := q - (5 + 19)) (by omega) (by omega) hm13 (n := (t_1 + 1)) (show 1 ≤ (t_1 + 1) ∧ (t_1 + 1) ≤ 10 by omega)) (by omega) (show 5 + 19 ≤ q by omega) (Nat.le_of_ble_eq_true rfl) (Nat.le_of_ble_eq_true rfl) rfl rfl rfl ?_
        rintro z25 m26 ⟨rfl, p28, p29, p30⟩
        have eM : z25 = cQ m n (t_1 + 1) := (p30).trans (hQ (t_1 + 1) (by omega) (by omega))
        refine g_lstore (n := 6) (lo' := [(5, vI t_1), (3, vL f_1), (2, vI b_1), (0, vR 31), (1, vI n)]) rfl rfl ?_
        refine g_lload (n := 6) rfl rfl ?_
        refine g_lconst (x := 0) (by decide) rfl ?_
        refine g_lcmp (by omega) (by omega) (by decide) (by decide) rfl ?_
        intro z31 h32
        refine g_if_le (by omega) (by omega) rfl ?_ ?_
        · intro kk33
          have bN := nbm_neg (Q := cQ m n) (t := t_1) (by omega) iB iV eM (by omega)
          refine g_iinc (n := 5) (lo' := [(6, vL z25), (3, vL f_1), (2, vI b_1), (0, vR 31), (1, vI n)]) rfl rfl rfl ?_
          refine g_goto rfl ?_
          refine g_pick (lo' := [(5, vI (t_1 + 1)), (3, vL f_1), (2, vI b_1), (0, vR 31), (1, vI n)]) [0, 2, 3, 4, 5] rfl ?_
          exact ih17_1 _ (by omega) b_1 f_1 (t_1 + 1) (by omega) (by omega) (by omega) (by omega) bN.1 bN.2 rfl
        · intro kk34
          refine g_iload_n (n := 2) rfl rfl ?_
          refine g_iconst rfl ?_
          refine g_icmp_eq (by omega) (by omega) (by decide) (by decide) rfl ?_ ?_
          · intro kk35
            refine g_iload (n := 5) rfl rfl ?_
            refine g_istore_n (n := 2) (lo' := [(6, vL z25), (5, vI t_1), (3, vL f_1), (0, vR 31), (1, vI n)]) rfl rfl ?_
            refine g_lload (n := 6) rfl rfl ?_
            refine g_lstore_n (n := 3) (lo' := [(2, vI t_1), (6, vL z25), (5, vI t_1), (0, vR 31), (1, vI n)]) rfl rfl ?_
            have bN := nbm_pos (Q := cQ m n) (t := t_1) (by omega) iB iV eM (by omega)
            refine g_iinc (n := 5) (lo' := [(3, vL z25), (2, vI t_1), (6, vL z25), (0, vR 31), (1, vI n)]) rfl rfl rfl ?_
            refine g_goto rfl ?_
            refine g_pick (lo' := [(5, vI (t_1 + 1)), (3, vL z25), (2, vI t_1), (0, vR 31), (1, vI n)]) [0, 1, 2, 4, 5] rfl ?_
            exact ih17_1 _ (by omega) t_1 z25 (t_1 + 1) (by omega) (by omega) (by omega) (by omega) bN.1 bN.2 rfl
          · intro kk36
            refine g_lload (n := 6) rfl rfl ?_
            refine g_lload_n (n := 3) rfl rfl ?_
            refine g_lcmp (by omega) (by omega) (by omega) (by omega) rfl ?_
            intro z37 h38
            refine g_if_ge (by omega) (by omega) rfl ?_ ?_
            · intro kk39
              have bN := nbm_neg (Q := cQ m n) (t := t_1) (by omega) iB iV eM (by omega)
              refine g_iinc (n := 5) (lo' := [(6, vL z25), (3, vL f_1), (2, vI b_1), (0, vR 31), (1, vI n)]) rfl rfl rfl ?_
              refine g_goto rfl ?_
              refine g_pick (lo' := [(5, vI (t_1 + 1)), (3, vL f_1), (2, vI b_1), (0, vR 31), (1, vI n)]) [0, 2, 3, 4, 5] rfl ?_
              exact ih17_1 _ (by omega) b_1 f_1 (t_1 + 1) (by omega) (by omega) (by omega) (by omega) bN.1 bN.2 rfl
            · intro kk40
              refine g_iload (n := 5) rfl rfl ?_
              refine g_istore_n (n := 2) (lo' := [(6, vL z25), (5, vI t_1), (3, vL f_1), (0, vR 31), (1, vI n)]) rfl rfl ?_
              refine g_lload (n := 6) rfl rfl ?_
              refine g_lstore_n (n := 3) (lo' := [(2, vI t_1), (6, vL z25), (5, vI t_1), (0, vR 31), (1, vI n)]) rfl rfl ?_
              have bN := nbm_pos (Q := cQ m n) (t := t_1) (by omega) iB iV eM (by omega)
              refine g_iinc (n := 5) (lo' := [(3, vL z25), (2, vI t_1), (6, vL z25), (0, vR 31), (1, vI n)]) rfl rfl rfl ?_
              refine g_goto rfl ?_
              refine g_pick (lo' := [(5, vI (t_1 + 1)), (3, vL z25), (2, vI t_1), (0, vR 31), (1, vI n)]) [0, 1, 2, 4, 5] rfl ?_
              exact ih17_1 _ (by omega) t_1 z25 (t_1 + 1) (by omega) (by omega) (by omega) (by omega) bN.1 bN.2 rfl
  exact L17_1 _ (-1) 0 0 (by omega) (by omega) (by omega) (by omega) rfl rfl rfl
theorem c_power {V : cg_V} {d q : Nat} (hd : 0 ≤ d) (hq : 0 ≤ q) {m : kM} (hm : kI m) {b n : Int} (h_b : (-2147483648) ≤ b ∧ b ≤ 2147483647) (h_n : 0 ≤ n ∧ n ≤ 16) : cg_S V d q mX4_power [vI b, vI n] (kl m) (R_J (fun z m' => (m = m') ∧ (-9223372036854775808 ≤ z) ∧ (z < 9223372036854775808))) := by
  refine cg_of (List.mem_of_getElem? (show ae_MT[58]? = some mX4_power from rfl)) (Nat.le_of_ble_eq_true rfl) ?_
  show cg_G V mX4_power d q _ 0 [(0, vI b), (1, vI n)] [] (kl m) 0 0
  refine g_lconst (x := 1) (by decide) rfl ?_
  refine g_lstore_n (n := 2) (lo' := [(0, vI b), (1, vI n)]) rfl rfl ?_
  refine g_iconst rfl ?_
  refine g_istore (n := 4) (lo' := [(2, vL 1), (0, vI b), (1, vI n)]) rfl rfl ?_
  have L5_1 : ∀ (n5_1 : Nat) (s_1 : Int) (i_1 : Int), ((-9223372036854775808) ≤ s_1 ∧ s_1 ≤ 9223372036854775807) → (0 ≤ i_1 ∧ i_1 ≤ 16) → ((16 - i_1).toNat) = n5_1 → cg_G V mX4_power d q (R_J (fun z m' => (m = m') ∧ (-9223372036854775808 ≤ z) ∧ (z < 9223372036854775808))) 5 [(4, vI i_1), (2, vL s_1), (0, vI b), (1, vI n)] [] (kl m) 0 0 := by
    intro n5_1
    induction n5_1 using Nat.strongRecOn with
    | _ n5_1 ih5_1 =>
      intro s_1 i_1 i1 i2 q3
      refine g_iload (n := 4) rfl rfl ?_
      refine g_iload_n (n := 1) rfl rfl ?_
      refine g_icmp_ge (by omega) (by omega) (by omega) (by omega) rfl ?_ ?_
      · intro kk4
        refine g_lload_n (n := 2) rfl rfl ?_
        refine g_lret rfl rfl ?_
        exact ⟨_, _, rfl, rfl, (by omega), (by omega)⟩
      · intro kk5
        refine g_lload_n (n := 2) rfl rfl ?_
        refine g_iload_n (n := 0) rfl rfl ?_
        refine g_i2l (by omega) (by omega) rfl ?_
        refine g_lmul rfl ?_
        refine g_nrmL ?_
        intro z6 h7 h8 h9 h10
        refine g_lstore_n (n := 2) (lo' := [(4, vI i_1), (0, vI b), (1, vI n)]) rfl rfl ?_
        refine g_iinc (n := 4) (lo' := [(2, vL z6), (0, vI b), (1, vI n)]) rfl rfl rfl ?_
        refine g_goto rfl ?_
        exact ih5_1 _ (by omega) z6 (i_1 + 1) (by omega) (by omega) rfl
  exact L5_1 _ 1 0 (by omega) (by omega) rfl
theorem c_waysInTime {V : cg_V} {d q : Nat} (hd : 1 ≤ d) (hq : 24 ≤ q) {m : kM} (hm : kI m) {n p e : Int} (h_n : 0 ≤ n ∧ n ≤ 10) (h_p : 0 ≤ p ∧ p ≤ 10) (h_e : 0 ≤ e ∧ e ≤ 6) : cg_S V d q mX4_waysInTime [vI n, vI p, vI e] (kl m) (R_J (fun z m' => (m = m') ∧ (-9223372036854775808 ≤ z) ∧ (z < 9223372036854775808))) := by
  refine cg_of (List.mem_of_getElem? (show ae_MT[59]? = some mX4_waysInTime from rfl)) (Nat.le_of_ble_eq_true rfl) ?_
  show cg_G V mX4_waysInTime d q _ 0 [(0, vI n), (1, vI p), (2, vI e)] [] (kl m) 0 0
  refine g_lconst (x := 0) (by decide) rfl ?_
  refine g_lstore_n (n := 3) (lo' := [(0, vI n), (1, vI p), (2, vI e)]) rfl rfl ?_
  refine g_lconst (x := 1) (by decide) rfl ?_
  refine g_lstore (n := 5) (lo' := [(3, vL 0), (0, vI n), (1, vI p), (2, vI e)]) rfl rfl ?_
  refine g_iconst rfl ?_
  refine g_istore (n := 7) (lo' := [(5, vL 1), (3, vL 0), (0, vI n), (1, vI p), (2, vI e)]) rfl rfl ?_
  have L8_1 : ∀ (n8_1 : Nat) (s_1 : Int) (w_1 : Int) (x_1 : Int), ((-9223372036854775808) ≤ s_1 ∧ s_1 ≤ 9223372036854775807) → ((-9223372036854775808) ≤ w_1 ∧ w_1 ≤ 9223372036854775807) → (0 ≤ x_1 ∧ x_1 ≤ 7) → ((7 - x_1).toNat) = n8_1 → cg_G V mX4_waysInTime d q (R_J (fun z m' => (m = m') ∧ (-9223372036854775808 ≤ z) ∧ (z < 9223372036854775808))) 8 [(7, vI x_1), (5, vL w_1), (3, vL s_1), (0, vI n), (1, vI p), (2, vI e)] [] (kl m) 0 0 := by
    intro n8_1
    induction n8_1 using Nat.strongRecOn with
    | _ n8_1 ih8_1 =>
      intro s_1 w_1 x_1 i1 i2 i3 q4
      refine g_iload (n := 7) rfl rfl ?_
      refine g_iload_n (n := 2) rfl rfl ?_
      refine g_icmp_gt (by omega) (by omega) (by omega) (by omega) rfl ?_ ?_
      · intro kk5
        refine g_lload_n (n := 3) rfl rfl ?_
        refine g_lret rfl rfl ?_
        exact ⟨_, _, rfl, rfl, (by omega), (by omega)⟩
      · intro kk6
        refine g_iload (n := 7) rfl rfl ?_
        refine g_if_le (by omega) (by omega) rfl ?_ ?_
        · intro kk7
          refine g_lload_n (n := 3) rfl rfl ?_
          refine g_lload (n := 5) rfl rfl ?_
          refine g_iload_n (n := 1) rfl rfl ?_
          refine g_iload (n := 7) rfl rfl ?_
          refine c_sL (ps := [vI x_1, vI p]) (r := [vL w_1, vL s_1]) (as := [vI p, vI x_1]) (cs' := 0) (sl' := 0) rfl rfl rfl rfl rfl rfl (c_power (d := d - 1) (q := q - (5 + 19)) (by omega) (by omega) hm (b := p) (n := x_1) (show (-2147483648) ≤ p ∧ p ≤ 2147483647 by omega) (show 0 ≤ x_1 ∧ x_1 ≤ 16 by omega)) (by omega) (show 5 + 19 ≤ q by omega) (Nat.le_of_ble_eq_true rfl) (Nat.le_of_ble_eq_true rfl) rfl rfl rfl ?_
          rintro z8 m9 ⟨rfl, p11, p12⟩
          refine g_lmul rfl ?_
          refine g_nrmL ?_
          intro z13 h14 h15 h16 h17
          refine g_bipush (by decide) rfl ?_
          refine g_iload_n (n := 1) rfl rfl ?_
          refine g_isub rfl ?_
          refine g_iload_n (n := 0) rfl rfl ?_
          refine c_sL (ps := [vI n, vI (10 - p)]) (r := [vL z13, vL s_1]) (as := [vI (10 - p), vI n]) (cs' := 0) (sl' := 0) rfl rfl rfl rfl rfl rfl (c_power (d := d - 1) (q := q - (5 + 19)) (by omega) (by omega) hm (b := (10 - p)) (n := n) (show (-2147483648) ≤ (10 - p) ∧ (10 - p) ≤ 2147483647 by omega) (show 0 ≤ n ∧ n ≤ 16 by omega)) (by omega) (show 5 + 19 ≤ q by omega) (Nat.le_of_ble_eq_true rfl) (Nat.le_of_ble_eq_true rfl) rfl rfl rfl ?_
          rintro z18 m19 ⟨rfl, p21, p22⟩
          refine g_lmul rfl ?_
          refine g_nrmL ?_
          intro z23 h24 h25 h26 h27
          refine g_bipush (by decide) rfl ?_
          refine g_iload_n (n := 2) rfl rfl ?_
          refine g_iload (n := 7) rfl rfl ?_
          refine g_isub rfl ?_
          refine c_sL (ps := [vI (e - x_1), vI 10]) (r := [vL z23, vL s_1]) (as := [vI 10, vI (e - x_1)]) (cs' := 0) (sl' := 0) rfl rfl rfl rfl rfl rfl (c_power (d := d - 1) (q := q - (5 + 19)) (by omega) (by omega) hm (b := 10) (n := (e - x_1)) (show (-2147483648) ≤ 10 ∧ 10 ≤ 2147483647 by omega) (show 0 ≤ (e - x_1) ∧ (e - x_1) ≤ 16 by omega)) (by omega) (show 5 + 19 ≤ q by omega) (Nat.le_of_ble_eq_true rfl) (Nat.le_of_ble_eq_true rfl) rfl rfl rfl ?_
          rintro z28 m29 ⟨rfl, p31, p32⟩
          refine g_lmul rfl ?_
          refine g_nrmL ?_
          intro z33 h34 h35 h36 h37
          refine g_ladd rfl ?_
          refine g_nrmL ?_
          intro z38 h39 h40 h41 h42
          refine g_lstore_n (n := 3) (lo' := [(7, vI x_1), (5, vL w_1), (0, vI n), (1, vI p), (2, vI e)]) rfl rfl ?_
          refine g_iinc (n := 7) (lo' := [(3, vL z38), (5, vL w_1), (0, vI n), (1, vI p), (2, vI e)]) rfl rfl rfl ?_
          refine g_goto rfl ?_
          refine g_pick (lo' := [(7, vI (x_1 + 1)), (5, vL w_1), (3, vL z38), (0, vI n), (1, vI p), (2, vI e)]) [0, 2, 1, 3, 4, 5] rfl ?_
          exact ih8_1 _ (by omega) z38 w_1 (x_1 + 1) (by omega) (by omega) (by omega) rfl
        · intro kk43
          refine g_lload (n := 5) rfl rfl ?_
          refine g_iload_n (n := 0) rfl rfl ?_
          refine g_iload (n := 7) rfl rfl ?_
          refine g_iadd rfl ?_
          refine g_iconst rfl ?_
          refine g_isub rfl ?_
          refine g_i2l (by omega) (by omega) rfl ?_
          refine g_lmul rfl ?_
          refine g_nrmL ?_
          intro z44 h45 h46 h47 h48
          refine g_iload (n := 7) rfl rfl ?_
          refine g_i2l (by omega) (by omega) rfl ?_
          refine g_ldivA (by omega) (by omega) (by omega) (by omega) (by omega) rfl ?_
          intro z49 h50 h51 h52
          refine g_lstore (n := 5) (lo' := [(7, vI x_1), (3, vL s_1), (0, vI n), (1, vI p), (2, vI e)]) rfl rfl ?_
          refine g_lload_n (n := 3) rfl rfl ?_
          refine g_lload (n := 5) rfl rfl ?_
          refine g_iload_n (n := 1) rfl rfl ?_
          refine g_iload (n := 7) rfl rfl ?_
          refine c_sL (ps := [vI x_1, vI p]) (r := [vL z49, vL s_1]) (as := [vI p, vI x_1]) (cs' := 0) (sl' := 0) rfl rfl rfl rfl rfl rfl (c_power (d := d - 1) (q := q - (5 + 19)) (by omega) (by omega) hm (b := p) (n := x_1) (show (-2147483648) ≤ p ∧ p ≤ 2147483647 by omega) (show 0 ≤ x_1 ∧ x_1 ≤ 16 by omega)) (by omega) (show 5 + 19 ≤ q by omega) (Nat.le_of_ble_eq_true rfl) (Nat.le_of_ble_eq_true rfl) rfl rfl rfl ?_
          rintro z53 m54 ⟨rfl, p56, p57⟩
          refine g_lmul rfl ?_
          refine g_nrmL ?_
          intro z58 h59 h60 h61 h62
          refine g_bipush (by decide) rfl ?_
          refine g_iload_n (n := 1) rfl rfl ?_
          refine g_isub rfl ?_
          refine g_iload_n (n := 0) rfl rfl ?_
          refine c_sL (ps := [vI n, vI (10 - p)]) (r := [vL z58, vL s_1]) (as := [vI (10 - p), vI n]) (cs' := 0) (sl' := 0) rfl rfl rfl rfl rfl rfl (c_power (d := d - 1) (q := q - (5 + 19)) (by omega) (by omega) hm (b := (10 - p)) (n := n) (show (-2147483648) ≤ (10 - p) ∧ (10 - p) ≤ 2147483647 by omega) (show 0 ≤ n ∧ n ≤ 16 by omega)) (by omega) (show 5 + 19 ≤ q by omega) (Nat.le_of_ble_eq_true rfl) (Nat.le_of_ble_eq_true rfl) rfl rfl rfl ?_
          rintro z63 m64 ⟨rfl, p66, p67⟩
          refine g_lmul rfl ?_
          refine g_nrmL ?_
          intro z68 h69 h70 h71 h72
          refine g_bipush (by decide) rfl ?_
          refine g_iload_n (n := 2) rfl rfl ?_
          refine g_iload (n := 7) rfl rfl ?_
          refine g_isub rfl ?_
          refine c_sL (ps := [vI (e - x_1), vI 10]) (r := [vL z68, vL s_1]) (as := [vI 10, vI (e - x_1)]) (cs' := 0) (sl' := 0) rfl rfl rfl rfl rfl rfl (c_power (d := d - 1) (q := q - (5 + 19)) (by omega) (by omega) hm (b := 10) (n := (e - x_1)) (show (-2147483648) ≤ 10 ∧ 10 ≤ 2147483647 by omega) (show 0 ≤ (e - x_1) ∧ (e - x_1) ≤ 16 by omega)) (by omega) (show 5 + 19 ≤ q by omega) (Nat.le_of_ble_eq_true rfl) (Nat.le_of_ble_eq_true rfl) rfl rfl rfl ?_
          rintro z73 m74 ⟨rfl, p76, p77⟩
          refine g_lmul rfl ?_
          refine g_nrmL ?_
          intro z78 h79 h80 h81 h82
          refine g_ladd rfl ?_
          refine g_nrmL ?_
          intro z83 h84 h85 h86 h87
          refine g_lstore_n (n := 3) (lo' := [(5, vL z49), (7, vI x_1), (0, vI n), (1, vI p), (2, vI e)]) rfl rfl ?_
          refine g_iinc (n := 7) (lo' := [(3, vL z83), (5, vL z49), (0, vI n), (1, vI p), (2, vI e)]) rfl rfl rfl ?_
          refine g_goto rfl ?_
          refine g_pick (lo' := [(7, vI (x_1 + 1)), (5, vL z49), (3, vL z83), (0, vI n), (1, vI p), (2, vI e)]) [0, 2, 1, 3, 4, 5] rfl ?_
          exact ih8_1 _ (by omega) z83 z49 (x_1 + 1) (by omega) (by omega) (by omega) rfl
  exact L8_1 _ 0 1 0 (by omega) (by omega) (by omega) rfl
theorem c_commonDivisor {V : cg_V} {d q : Nat} (hd : 0 ≤ d) (hq : 0 ≤ q) {m : kM} (hm : kI m) {a b : Int} (h_a : (-9223372036854775808) ≤ a ∧ a ≤ 9223372036854775807) (h_b : (-9223372036854775808) ≤ b ∧ b ≤ 9223372036854775807) : cg_S V d q mX4_commonDivisor [vL a, vL b] (kl m) (R_J (fun z m' => (m = m') ∧ (-9223372036854775808 ≤ z) ∧ (z < 9223372036854775808))) := by
  refine cg_of (List.mem_of_getElem? (show ae_MT[60]? = some mX4_commonDivisor from rfl)) (Nat.le_of_ble_eq_true rfl) ?_
  show cg_G V mX4_commonDivisor d q _ 0 [(0, vL a), (2, vL b)] [] (kl m) 0 0
  refine g_lload_n (n := 0) rfl rfl ?_
  refine g_lstore (n := 4) (lo' := [(0, vL a), (2, vL b)]) rfl rfl ?_
  refine g_lload_n (n := 2) rfl rfl ?_
  refine g_lstore (n := 6) (lo' := [(4, vL a), (0, vL a), (2, vL b)]) rfl rfl ?_
  refine g_iconst rfl ?_
  refine g_istore (n := 8) (lo' := [(6, vL b), (4, vL a), (0, vL a), (2, vL b)]) rfl rfl ?_
  have L9_1 : ∀ (n9_1 : Nat) (x_1 : Int) (y_1 : Int) (i_1 : Int), ((-9223372036854775808) ≤ x_1 ∧ x_1 ≤ 9223372036854775807) → ((-9223372036854775808) ≤ y_1 ∧ y_1 ≤ 9223372036854775807) → (0 ≤ i_1 ∧ i_1 ≤ 128) → ((128 - i_1).toNat) = n9_1 → cg_G V mX4_commonDivisor d q (R_J (fun z m' => (m = m') ∧ (-9223372036854775808 ≤ z) ∧ (z < 9223372036854775808))) 9 [(8, vI i_1), (6, vL y_1), (4, vL x_1), (0, vL a), (2, vL b)] [] (kl m) 0 0 := by
    intro n9_1
    induction n9_1 using Nat.strongRecOn with
    | _ n9_1 ih9_1 =>
      intro x_1 y_1 i_1 i1 i2 i3 q4
      refine g_iload (n := 8) rfl rfl ?_
      refine g_sipush (by decide) rfl ?_
      refine g_icmp_ge (by omega) (by omega) (by decide) (by decide) rfl ?_ ?_
      · intro kk5
        refine g_lload (n := 4) rfl rfl ?_
        refine g_lret rfl rfl ?_
        exact ⟨_, _, rfl, rfl, (by omega), (by omega)⟩
      · intro kk6
        refine g_lload (n := 6) rfl rfl ?_
        refine g_lconst (x := 0) (by decide) rfl ?_
        refine g_lcmp (by omega) (by omega) (by decide) (by decide) rfl ?_
        intro z7 h8
        refine g_if_eq (by omega) (by omega) rfl ?_ ?_
        · intro kk9
          refine g_lload (n := 4) rfl rfl ?_
          refine g_lret rfl rfl ?_
          exact ⟨_, _, rfl, rfl, (by omega), (by omega)⟩
        · intro kk10
          refine g_lload (n := 4) rfl rfl ?_
          refine g_lload (n := 6) rfl rfl ?_
          refine g_lremA (by omega) (by omega) (by omega) (by omega) (by omega) rfl ?_
          intro z11 h12 h13 h14
          refine g_lstore (n := 9) (lo' := [(8, vI i_1), (6, vL y_1), (4, vL x_1), (0, vL a), (2, vL b)]) rfl rfl ?_
          refine g_lload (n := 6) rfl rfl ?_
          refine g_lstore (n := 4) (lo' := [(9, vL z11), (8, vI i_1), (6, vL y_1), (0, vL a), (2, vL b)]) rfl rfl ?_
          refine g_lload (n := 9) rfl rfl ?_
          refine g_lstore (n := 6) (lo' := [(4, vL y_1), (9, vL z11), (8, vI i_1), (0, vL a), (2, vL b)]) rfl rfl ?_
          refine g_iinc (n := 8) (lo' := [(6, vL z11), (4, vL y_1), (9, vL z11), (0, vL a), (2, vL b)]) rfl rfl rfl ?_
          refine g_goto rfl ?_
          refine g_pick (lo' := [(8, vI (i_1 + 1)), (6, vL z11), (4, vL y_1), (0, vL a), (2, vL b)]) [0, 1, 2, 4, 5] rfl ?_
          exact ih9_1 _ (by omega) y_1 z11 (i_1 + 1) (by omega) (by omega) (by omega) rfl
  exact L9_1 _ a b 0 (by omega) (by omega) (by omega) rfl
theorem c_tellO {V : cg_V} {d q : Nat} (hd : 2 ≤ d) (hq : 51 ≤ q) {m : kM} (hm : kI m) {n p e t : Int} (h_n : 0 ≤ n ∧ n ≤ 10) (h_p : 0 ≤ p ∧ p ≤ 10) (h_e : 0 ≤ e ∧ e ≤ 6) (h_t : 0 ≤ t ∧ t ≤ 1) : cg_S V d q mX4_tell [vI n, vI p, vI e, vI t] (kl m) (R_J (fun z m' => (m = m') ∧ (-9223372036854775808 ≤ z) ∧ (z < 9223372036854775808))) := by
  refine cg_of (List.mem_of_getElem? (show ae_MT[61]? = some mX4_tell from rfl)) (Nat.le_of_ble_eq_true rfl) ?_
  show cg_G V mX4_tell d q _ 0 [(0, vI n), (1, vI p), (2, vI e), (3, vI t)] [] (kl m) 0 0
  refine g_bipush (by decide) rfl ?_
  refine g_iload_n (n := 0) rfl rfl ?_
  refine g_iload_n (n := 2) rfl rfl ?_
  refine g_iadd rfl ?_
  refine c_sL (ps := [vI (n + e), vI 10]) (r := []) (as := [vI 10, vI (n + e)]) (cs' := 0) (sl' := 0) rfl rfl rfl rfl rfl rfl (c_power (d := d - 1) (q := q - (5 + 19)) (by omega) (by omega) hm (b := 10) (n := (n + e)) (show (-2147483648) ≤ 10 ∧ 10 ≤ 2147483647 by omega) (show 0 ≤ (n + e) ∧ (n + e) ≤ 16 by omega)) (by omega) (show 5 + 19 ≤ q by omega) (Nat.le_of_ble_eq_true rfl) (Nat.le_of_ble_eq_true rfl) rfl rfl rfl ?_
  rintro z1 m2 ⟨rfl, p4, p5⟩
  refine g_lstore (n := 4) (lo' := [(0, vI n), (1, vI p), (2, vI e), (3, vI t)]) rfl rfl ?_
  refine g_iload_n (n := 0) rfl rfl ?_
  refine g_iload_n (n := 1) rfl rfl ?_
  refine g_iload_n (n := 2) rfl rfl ?_
  refine c_sL (ps := [vI e, vI p, vI n]) (r := []) (as := [vI n, vI p, vI e]) (cs' := 0) (sl' := 0) rfl rfl rfl rfl rfl rfl (c_waysInTime (d := d - 1) (q := q - (8 + 19)) (by omega) (by omega) hm (n := n) (p := p) (e := e) (show 0 ≤ n ∧ n ≤ 10 by omega) (show 0 ≤ p ∧ p ≤ 10 by omega) (show 0 ≤ e ∧ e ≤ 6 by omega)) (by omega) (show 8 + 19 ≤ q by omega) (Nat.le_of_ble_eq_true rfl) (Nat.le_of_ble_eq_true rfl) rfl rfl rfl ?_
  rintro z6 m7 ⟨rfl, p9, p10⟩
  refine g_lstore (n := 6) (lo' := [(4, vL z1), (0, vI n), (1, vI p), (2, vI e), (3, vI t)]) rfl rfl ?_
  refine g_lload (n := 4) rfl rfl ?_
  refine g_lload (n := 6) rfl rfl ?_
  refine c_sL (ps := [vL z6, vL z1]) (r := []) (as := [vL z1, vL z6]) (cs' := 0) (sl' := 0) rfl rfl rfl rfl rfl rfl (c_commonDivisor (d := d - 1) (q := q - (11 + 19)) (by omega) (by omega) hm (a := z1) (b := z6) (show (-9223372036854775808) ≤ z1 ∧ z1 ≤ 9223372036854775807 by omega) (show (-9223372036854775808) ≤ z6 ∧ z6 ≤ 9223372036854775807 by omega)) (by omega) (show 11 + 19 ≤ q by omega) (Nat.le_of_ble_eq_true rfl) (Nat.le_of_ble_eq_true rfl) rfl rfl rfl ?_
  rintro z11 m12 ⟨rfl, p14, p15⟩
  refine g_lstore (n := 8) (lo' := [(6, vL z6), (4, vL z1), (0, vI n), (1, vI p), (2, vI e), (3, vI t)]) rfl rfl ?_
  refine g_lload (n := 8) rfl rfl ?_
  refine g_lconst (x := 0) (by decide) rfl ?_
  refine g_lcmp (by omega) (by omega) (by decide) (by decide) rfl ?_
  intro z16 h17
  refine g_if_ne (by omega) (by omega) rfl ?_ ?_
  · intro kk18
    refine g_iload_n (n := 3) rfl rfl ?_
    refine g_if_ne (by omega) (by omega) rfl ?_ ?_
    · intro kk19
      refine g_lload (n := 4) rfl rfl ?_
      refine g_lload (n := 8) rfl rfl ?_
      refine g_ldivA (by omega) (by omega) (by omega) (by omega) (by omega) rfl ?_
      intro z20 h21 h22 h23
      refine g_lret rfl rfl ?_
      exact ⟨_, _, rfl, rfl, (by omega), (by omega)⟩
    · intro kk24
      refine g_lload (n := 6) rfl rfl ?_
      refine g_lload (n := 8) rfl rfl ?_
      refine g_ldivA (by omega) (by omega) (by omega) (by omega) (by omega) rfl ?_
      intro z25 h26 h27 h28
      refine g_goto rfl ?_
      refine g_lret rfl rfl ?_
      exact ⟨_, _, rfl, rfl, (by omega), (by omega)⟩
  · intro kk29
    refine g_lconst (x := 0) (by decide) rfl ?_
    refine g_lret rfl rfl ?_
    exact ⟨_, _, rfl, rfl, (by omega), (by omega)⟩
