/-! ===== contracts: the search of the class ===== -/
def kQ (m : kM) : Prop := ∀ p : Int, 0 ≤ p → p < m.1 20 → 0 ≤ m.2.1 18 p ∧ m.2.1 18 p / 524288 % 131072 < 64512
theorem kQ_fr {SF SA : List Nat} {m m' : kM} (h : fr SF SA m m') (h1 : SF.contains 20 = false) (h2 : SA.contains 18 = false) (hQ : kQ m) : kQ m' := by
  intro p a b
  rw [h.1 20 h1] at b
  rw [h.2.1 18 h2]
  exact hQ p a b
theorem kQ_put {m m' : kM} {v : Int} (hQ : kQ m) (h20 : m'.1 20 = m.1 20 + 1) (h18 : m'.2.1 18 = up (m.2.1 18) (m.1 20) v) (hv0 : 0 ≤ v) (hv : v / 524288 % 131072 < 64512) : kQ m' := by
  intro p a b
  rw [h20] at b
  rw [h18]
  by_cases e : p = m.1 20
  · rw [e, up_same]
    exact ⟨hv0, hv⟩
  · rw [up_ne _ e]
    exact hQ p a (by omega)
theorem c_sortDoors {V : cg_V} {d q : Nat} (hd : 2 ≤ d) (hq : 43 ≤ q) {m : kM} (hm : kI m) : cg_S V d q mX7_sortDoors [vR 17] (kl m) (R_V (fun m' => (kI m') ∧ (fr [] [22, 23, 24, 25, 26, 27, 28] m m'))) := by
  have hf0 : fr [] [22, 23, 24, 25, 26, 27, 28] m m := fr_rf m
  refine cg_of (List.mem_of_getElem? (show ae_MT[23]? = some mX7_sortDoors from rfl)) (Nat.le_of_ble_eq_true rfl) ?_
  show cg_G V mX7_sortDoors d q _ 0 [(0, vR 17)] [] (kl m) 0 0
  refine g_iconst rfl ?_
  refine g_istore_n (n := 1) (lo' := [(0, vR 17)]) rfl rfl ?_
  have L2_1 : ∀ (n2_1 : Nat) (r_1 : Int) (mL1 : kM), (kI mL1) → (fr [] [22, 23, 24, 25, 26, 27, 28] m mL1) → (0 ≤ r_1 ∧ r_1 ≤ 6) → ((6 - r_1).toNat) = n2_1 → cg_G V mX7_sortDoors d q (R_V (fun m' => (kI m') ∧ (fr [] [22, 23, 24, 25, 26, 27, 28] m m'))) 2 [(1, vI r_1), (0, vR 17)] [] (kl mL1) 0 0 := by
    intro n2_1
    induction n2_1 using Nat.strongRecOn with
    | _ n2_1 ih2_1 =>
      intro r_1 mL1 hmL1 hfL1 i1 q2
      refine g_iload_n (n := 1) rfl rfl ?_
      refine g_bipush (by decide) rfl ?_
      refine g_icmp_ge (by omega) (by omega) (by decide) (by decide) rfl ?_ ?_
      · intro kk3
        refine g_vret rfl rfl ?_
        exact ⟨_, rfl, hmL1, hfL1⟩
      · intro kk4
        refine g_aload_n (n := 0) rfl rfl ?_
        refine g_getf (v := vR 28) rfl (kl_17 _) rfl ?_
        refine g_iload_n (n := 1) rfl rfl ?_
        refine g_iconst rfl ?_
        refine g_iAst (f := mL1.2.1 28) (m' := (kA mL1 28 (up (mL1.2.1 28) r_1 0))) rfl (kl_28 _) (by decide) (by omega) (by omega) (kA_28 _ _) ?_
        have hm5 : kI (kA mL1 28 (up (mL1.2.1 28) r_1 0)) := kI_U hmL1 28 rfl (show (0 : Int) ≤ 0 by omega) (show 0 ≤ (10 : Int) by omega)
        have hf6 : fr [] [22, 23, 24, 25, 26, 27, 28] m (kA mL1 28 (up (mL1.2.1 28) r_1 0)) := fr_A hfL1 28 _ rfl
        refine g_iconst rfl ?_
        refine g_istore_n (n := 2) (lo' := [(1, vI r_1), (0, vR 17)]) rfl rfl ?_
        have L17_2 : ∀ (n17_2 : Nat) (a_2 : Int) (mL2 : kM), (kI mL2) → (fr [] [22, 23, 24, 25, 26, 27, 28] m mL2) → (0 ≤ a_2 ∧ a_2 ≤ 10) → (mL2.2.1 28 r_1 ≤ a_2) → ((10 - a_2).toNat) = n17_2 → cg_G V mX7_sortDoors d q (R_V (fun m' => (kI m') ∧ (fr [] [22, 23, 24, 25, 26, 27, 28] m m'))) 17 [(2, vI a_2), (1, vI r_1), (0, vR 17)] [] (kl mL2) 0 0 := by
          intro n17_2
          induction n17_2 using Nat.strongRecOn with
          | _ n17_2 ih17_2 =>
            intro a_2 mL2 hmL2 hfL2 i7 i8 q9
            refine g_iload_n (n := 2) rfl rfl ?_
            refine g_aload_n (n := 0) rfl rfl ?_
            refine g_getf (v := vR 3) rfl (kl_17 _) rfl ?_
            have h10 : 0 ≤ mL2.1 8 ∧ mL2.1 8 ≤ 10 := hmL2.1 8
            have h11 : mL2.1 8 = m.1 8 := hfL2.1 8 rfl
            refine g_getf (v := vI (mL2.1 8)) rfl (kl_3 _) rfl ?_
            refine g_icmp_ge (by omega) (by omega) (by omega) (by omega) rfl ?_ ?_
            · intro kk12
              refine g_iinc (n := 1) (lo' := [(2, vI a_2), (0, vR 17)]) rfl rfl rfl ?_
              refine g_goto rfl ?_
              refine g_pick (lo' := [(1, vI (r_1 + 1)), (0, vR 17)]) [0, 2] rfl ?_
              exact ih2_1 _ (by omega) (r_1 + 1) mL2 hmL2 hfL2 (by omega) rfl
            · intro kk13
              refine g_iload_n (n := 2) rfl rfl ?_
              refine g_bipush (by decide) rfl ?_
              refine g_icmp_ge (by omega) (by omega) (by decide) (by decide) rfl ?_ ?_
              · intro kk14
                exfalso; omega
              · intro kk15
                refine g_aload_n (n := 0) rfl rfl ?_
                refine g_getf (v := vR 3) rfl (kl_17 _) rfl ?_
                refine g_iload_n (n := 2) rfl rfl ?_
                refine g_iload_n (n := 1) rfl rfl ?_
                refine c_vI (i := 3) (ps := [vI r_1, vI a_2]) (r := []) (as := [vR 3, vI a_2, vI r_1]) (cs' := 0) (sl' := 0) rfl rfl rfl rfl rfl rfl (kl_3 _) (c_behind (d := d - 1) (q := q - (3 + 19)) (by omega) (by omega) hmL2 (a := a_2) (r := r_1) (show (-2147483648) ≤ a_2 ∧ a_2 ≤ 2147483647 by omega) (show (-2147483648) ≤ r_1 ∧ r_1 ≤ 2147483647 by omega)) (by omega) (show 3 + 19 ≤ q by omega) (Nat.le_of_ble_eq_true rfl) (Nat.le_of_ble_eq_true rfl) rfl rfl rfl ?_
                rintro z16 m17 ⟨rfl, p19, p20⟩
                refine g_iconst rfl ?_
                refine g_icmp_eq (by omega) (by omega) (by decide) (by decide) rfl ?_ ?_
                · intro kk21
                  refine g_iinc (n := 2) (lo' := [(1, vI r_1), (0, vR 17)]) rfl rfl rfl ?_
                  refine g_goto rfl ?_
                  exact ih17_2 _ (by omega) (a_2 + 1) mL2 hmL2 hfL2 (by omega) (by first | omega | (show up _ _ _ _ ≤ _; rw [up_same]; omega)) rfl
                · intro kk22
                  refine g_aload_n (n := 0) rfl rfl ?_
                  refine g_getf (v := vR 21) rfl (kl_17 _) rfl ?_
                  refine g_iload_n (n := 1) rfl rfl ?_
                  refine g_aald rfl (kl_21 _) (by decide) (by decide) (by omega) (by omega) ?_
                  refine g_aload_n (n := 0) rfl rfl ?_
                  refine g_getf (v := vR 28) rfl (kl_17 _) rfl ?_
                  refine g_iload_n (n := 1) rfl rfl ?_
                  have h23 : 0 ≤ mL2.2.1 28 r_1 ∧ mL2.2.1 28 r_1 ≤ 10 := hmL2.2 28 r_1 (by omega) (show r_1 < (6 : Int) by omega)
                  refine g_iald (f := mL2.2.1 28) rfl (kl_28 _) (by decide) (by omega) (by omega) ?_
                  refine g_iload_n (n := 2) rfl rfl ?_
                  refine g_iAst (f := mL2.2.1 (22 + Int.toNat (r_1))) (m' := (kA mL2 (22 + Int.toNat (r_1)) (up (mL2.2.1 (22 + Int.toNat (r_1))) (mL2.2.1 28 r_1) a_2))) rfl (kl_f22 _ (show Int.toNat (r_1) < 6 by omega)) (by decide) (by omega) (by omega) (kA_f22 _ _ (show Int.toNat (r_1) < 6 by omega)) ?_
                  obtain ⟨m24, e25⟩ : ∃ x : kM, x = (kA mL2 (22 + Int.toNat (r_1)) (up (mL2.2.1 (22 + Int.toNat (r_1))) (mL2.2.1 28 r_1) a_2)) := ⟨_, rfl⟩
                  rw [← e25]
                  have hm26 : kI m24 := by rw [e25]; exact kI_u22 hmL2 (show Int.toNat (r_1) < 6 by omega) rfl (by omega) (by omega)
                  have hc27 : fr [] [22, 23, 24, 25, 26, 27] mL2 m24 := by rw [e25]; exact fr_A (fr_rf _) (22 + Int.toNat (r_1)) _ (fr_c22 (show Int.toNat (r_1) < 6 by omega) rfl)
                  have hf28 : fr [] [22, 23, 24, 25, 26, 27, 28] m m24 := fr_tr hfL2 (fr_le hc27 rfl rfl)
                  have h29 : m24.1 8 = mL2.1 8 := hc27.1 8 rfl
                  have h30 : 0 ≤ m24.1 8 ∧ m24.1 8 ≤ 10 := hm26.1 8
                  refine g_aload_n (n := 0) rfl rfl ?_
                  refine g_getf (v := vR 28) rfl (kl_17 _) rfl ?_
                  refine g_iload_n (n := 1) rfl rfl ?_
                  refine g_dup2 rfl rfl rfl ?_
                  have h31 : 0 ≤ m24.2.1 28 r_1 ∧ m24.2.1 28 r_1 ≤ 10 := hm26.2 28 r_1 (by omega) (show r_1 < (6 : Int) by omega)
                  have h32 : m24.2.1 28 r_1 = mL2.2.1 28 r_1 := congrFun (hc27.2.1 28 rfl) _
                  refine g_iald (f := m24.2.1 28) rfl (kl_28 _) (by decide) (by omega) (by omega) ?_
                  refine g_iconst rfl ?_
                  refine g_iadd rfl ?_
                  refine g_iAst (f := m24.2.1 28) (m' := (kA m24 28 (up (m24.2.1 28) r_1 (m24.2.1 28 r_1 + 1)))) rfl (kl_28 _) (by decide) (by omega) (by omega) (kA_28 _ _) ?_
                  have hm33 : kI (kA m24 28 (up (m24.2.1 28) r_1 (m24.2.1 28 r_1 + 1))) := kI_U hm26 28 rfl (show (0 : Int) ≤ (m24.2.1 28 r_1 + 1) by omega) (show (m24.2.1 28 r_1 + 1) ≤ (10 : Int) by omega)
                  have hf34 : fr [] [22, 23, 24, 25, 26, 27, 28] m (kA m24 28 (up (m24.2.1 28) r_1 (m24.2.1 28 r_1 + 1))) := fr_A hf28 28 _ rfl
                  refine g_iinc (n := 2) (lo' := [(1, vI r_1), (0, vR 17)]) rfl rfl rfl ?_
                  refine g_goto rfl ?_
                  exact ih17_2 _ (by omega) (a_2 + 1) (kA m24 28 (up (m24.2.1 28) r_1 (m24.2.1 28 r_1 + 1))) hm33 hf34 (by omega) (by first | omega | (show up _ _ _ _ ≤ _; rw [up_same]; omega)) rfl
        exact L17_2 _ 0 (kA mL1 28 (up (mL1.2.1 28) r_1 0)) hm5 hf6 (by omega) (by show up _ _ _ _ ≤ _; rw [up_same]; omega) rfl
  exact L2_1 _ 0 m hm hf0 (by omega) rfl
theorem c_fits {V : cg_V} {d q : Nat} (hd : 1 ≤ d) (hq : 21 ≤ q) {m : kM} (hm : kI m) {s g : Int} (h_s : (-2147483648) ≤ s ∧ s ≤ 2147483647) (h_g : (-2147483648) ≤ g ∧ g ≤ 2147483647) : cg_S V d q mX7_fits [vI s, vI g] (kl m) (R_I (fun z m' => (m = m') ∧ (z = 0 ∨ z = 1))) := by
  refine cg_of (List.mem_of_getElem? (show ae_MT[26]? = some mX7_fits from rfl)) (Nat.le_of_ble_eq_true rfl) ?_
  show cg_G V mX7_fits d q _ 0 [(0, vI s), (1, vI g)] [] (kl m) 0 0
  refine g_iload_n (n := 1) rfl rfl ?_
  refine g_if_ne (by omega) (by omega) rfl ?_ ?_
  · intro kk1
    refine g_iload_n (n := 0) rfl rfl ?_
    refine g_iconst rfl ?_
    refine c_sI (ps := [vI 0, vI s]) (r := []) (as := [vI s, vI 0]) (cs' := 0) (sl' := 0) rfl rfl rfl rfl rfl rfl (c_roomOf (d := d - 1) (q := q - (2 + 19)) (by omega) (by omega) hm (s := s) (g := 0) (show (-2147483648) ≤ s ∧ s ≤ 2147483647 by omega) (show 0 ≤ 0 ∧ 0 ≤ 1 by omega)) (by omega) (show 2 + 19 ≤ q by omega) (Nat.le_of_ble_eq_true rfl) (Nat.le_of_ble_eq_true rfl) rfl rfl rfl ?_
    rintro z2 m3 ⟨rfl, p5, p6⟩
    refine g_if_ne (by omega) (by omega) rfl ?_ ?_
    · intro kk7
      refine g_iconst rfl ?_
      refine g_zret rfl rfl (by omega) ?_
      exact ⟨_, _, rfl, rfl, (by omega)⟩
    · intro kk8
      refine g_iload_n (n := 0) rfl rfl ?_
      refine g_iconst rfl ?_
      refine c_sI (ps := [vI 1, vI s]) (r := []) (as := [vI s, vI 1]) (cs' := 0) (sl' := 0) rfl rfl rfl rfl rfl rfl (c_roomOf (d := d - 1) (q := q - (2 + 19)) (by omega) (by omega) hm (s := s) (g := 1) (show (-2147483648) ≤ s ∧ s ≤ 2147483647 by omega) (show 0 ≤ 1 ∧ 1 ≤ 1 by omega)) (by omega) (show 2 + 19 ≤ q by omega) (Nat.le_of_ble_eq_true rfl) (Nat.le_of_ble_eq_true rfl) rfl rfl rfl ?_
      rintro z9 m10 ⟨rfl, p12, p13⟩
      refine g_if_ne (by omega) (by omega) rfl ?_ ?_
      · intro kk14
        refine g_iconst rfl ?_
        refine g_zret rfl rfl (by omega) ?_
        exact ⟨_, _, rfl, rfl, (by omega)⟩
      · intro kk15
        refine g_iconst rfl ?_
        refine g_goto rfl ?_
        refine g_zret rfl rfl (by omega) ?_
        exact ⟨_, _, rfl, rfl, (by omega)⟩
  · intro kk16
    refine g_iload_n (n := 0) rfl rfl ?_
    refine c_sI (ps := [vI s]) (r := []) (as := [vI s]) (cs' := 0) (sl' := 0) rfl rfl rfl rfl rfl rfl (c_hungry (d := d - 1) (q := q - (1 + 19)) (by omega) (by omega) hm (s := s) (show (-2147483648) ≤ s ∧ s ≤ 2147483647 by omega)) (by omega) (show 1 + 19 ≤ q by omega) (Nat.le_of_ble_eq_true rfl) (Nat.le_of_ble_eq_true rfl) rfl rfl rfl ?_
    rintro z17 m18 ⟨rfl, p20, p21⟩
    refine g_if_ne (by omega) (by omega) rfl ?_ ?_
    · intro kk22
      refine g_iconst rfl ?_
      refine g_zret rfl rfl (by omega) ?_
      exact ⟨_, _, rfl, rfl, (by omega)⟩
    · intro kk23
      refine g_iconst rfl ?_
      refine g_goto rfl ?_
      refine g_zret rfl rfl (by omega) ?_
      exact ⟨_, _, rfl, rfl, (by omega)⟩
theorem c_standingAt {V : cg_V} {d q : Nat} (hd : 0 ≤ d) (hq : 0 ≤ q) {m : kM} (hm : kI m) {a : Int} (h_a : 0 ≤ a ∧ a ≤ 64511) : cg_S V d q mX7_standingAt [vR 17, vI a] (kl m) (R_I (fun z m' => (m = m') ∧ (0 ≤ z) ∧ (z ≤ 524287))) := by
  refine cg_of (List.mem_of_getElem? (show ae_MT[27]? = some mX7_standingAt from rfl)) (Nat.le_of_ble_eq_true rfl) ?_
  show cg_G V mX7_standingAt d q _ 0 [(0, vR 17), (1, vI a)] [] (kl m) 0 0
  refine g_aload_n (n := 0) rfl rfl ?_
  refine g_getf (v := vR 18) rfl (kl_17 _) rfl ?_
  refine g_iload_n (n := 1) rfl rfl ?_
  have h1 : (-9223372036854775808) ≤ m.2.1 18 a ∧ m.2.1 18 a ≤ 9223372036854775807 := hm.2 18 a (by omega) (show a < (64512 : Int) by omega)
  refine g_lald (f := m.2.1 18) rfl (kl_18 _) (by decide) (by omega) (by omega) ?_
  refine g_ldc2 (x := 524287) (by decide) rfl ?_
  refine g_land rfl ?_
  intro z2 h3 h4 h5
  have h6 : z2 = m.2.1 18 a % 524288 := b_lmodN (k := 19) h3 (by decide) (by decide) (by decide)
  refine g_l2i rfl ?_
  refine g_iret rfl rfl ?_
  exact ⟨_, _, rfl, rfl, (by omega), (by omega)⟩
theorem c_aheadOf {V : cg_V} {d q : Nat} (hd : 0 ≤ d) (hq : 0 ≤ q) {m : kM} (hm : kI m) {a : Int} (h_a : 0 ≤ a ∧ a ≤ 64511) : cg_S V d q mX7_aheadOf [vR 17, vI a] (kl m) (R_I (fun z m' => (m = m') ∧ (z = m.2.1 18 a / 524288 % 131072))) := by
  refine cg_of (List.mem_of_getElem? (show ae_MT[32]? = some mX7_aheadOf from rfl)) (Nat.le_of_ble_eq_true rfl) ?_
  show cg_G V mX7_aheadOf d q _ 0 [(0, vR 17), (1, vI a)] [] (kl m) 0 0
  refine g_aload_n (n := 0) rfl rfl ?_
  refine g_getf (v := vR 18) rfl (kl_17 _) rfl ?_
  refine g_iload_n (n := 1) rfl rfl ?_
  have h1 : (-9223372036854775808) ≤ m.2.1 18 a ∧ m.2.1 18 a ≤ 9223372036854775807 := hm.2 18 a (by omega) (show a < (64512 : Int) by omega)
  refine g_lald (f := m.2.1 18) rfl (kl_18 _) (by decide) (by omega) (by omega) ?_
  refine g_bipush (by decide) rfl ?_
  refine g_lshr rfl ?_
  intro z2 h3 h4 h5
  have h6 : z2 = m.2.1 18 a / 524288 := b_lshrN h3 (by decide) (by omega) (by omega) (by decide) (by decide)
  refine g_ldc2 (x := 131071) (by decide) rfl ?_
  refine g_land rfl ?_
  intro z7 h8 h9 h10
  have h11 : z7 = z2 % 131072 := b_lmodN (k := 17) h8 (by decide) (by decide) (by decide)
  refine g_l2i rfl ?_
  refine g_iret rfl rfl ?_
  exact ⟨_, _, rfl, rfl, (by omega)⟩
theorem c_listCode {V : cg_V} {d q : Nat} (hd : 0 ≤ d) (hq : 0 ≤ q) {m : kM} (hm : kI m) {c : Int} (h_c : 0 ≤ c ∧ c ≤ 99) : cg_S V d q mX7_listCode [vR 17, vI c] (kl m) (R_V (fun m' => (kI m') ∧ (fr [21] [20] m m'))) := by
  have hf0 : fr [21] [20] m m := fr_rf m
  refine cg_of (List.mem_of_getElem? (show ae_MT[28]? = some mX7_listCode from rfl)) (Nat.le_of_ble_eq_true rfl) ?_
  show cg_G V mX7_listCode d q _ 0 [(0, vR 17), (1, vI c)] [] (kl m) 0 0
  refine g_aload_n (n := 0) rfl rfl ?_
  have h1 : 0 ≤ m.1 21 ∧ m.1 21 ≤ 100 := hm.1 21
  refine g_getf (v := vI (m.1 21)) rfl (kl_17 _) rfl ?_
  refine g_bipush (by decide) rfl ?_
  refine g_icmp_ge (by omega) (by omega) (by decide) (by decide) rfl ?_ ?_
  · intro kk2
    refine g_vret rfl rfl ?_
    exact ⟨_, rfl, hm, hf0⟩
  · intro kk3
    refine g_aload_n (n := 0) rfl rfl ?_
    refine g_getf (v := vR 20) rfl (kl_17 _) rfl ?_
    refine g_aload_n (n := 0) rfl rfl ?_
    refine g_getf (v := vI (m.1 21)) rfl (kl_17 _) rfl ?_
    refine g_iload_n (n := 1) rfl rfl ?_
    refine g_iAst (f := m.2.1 20) (m' := (kA m 20 (up (m.2.1 20) (m.1 21) c))) rfl (kl_20 _) (by decide) (by omega) (by omega) (kA_20 _ _) ?_
    have hm4 : kI (kA m 20 (up (m.2.1 20) (m.1 21) c)) := kI_U hm 20 rfl (show (0 : Int) ≤ c by omega) (show c ≤ (99 : Int) by omega)
    have hf5 : fr [21] [20] m (kA m 20 (up (m.2.1 20) (m.1 21) c)) := fr_A hf0 20 _ rfl
    refine g_aload_n (n := 0) rfl rfl ?_
    refine g_dup rfl rfl ?_
    refine g_getf (v := vI (m.1 21)) rfl (kl_17 _) rfl ?_
    refine g_iconst rfl ?_
    refine g_iadd rfl ?_
    refine g_putF (m' := (kF (kA m 20 (up (m.2.1 20) (m.1 21) c)) 21 (m.1 21 + 1))) rfl (kl_17 _) rfl rfl rfl rfl (kF_21 _ _) ?_
    have hm6 : kI (kF (kA m 20 (up (m.2.1 20) (m.1 21) c)) 21 (m.1 21 + 1)) := kI_F hm4 21 (show (0 : Int) ≤ (m.1 21 + 1) by omega) (show (m.1 21 + 1) ≤ (100 : Int) by omega)
    have hf7 : fr [21] [20] m (kF (kA m 20 (up (m.2.1 20) (m.1 21) c)) 21 (m.1 21 + 1)) := fr_F hf5 21 _ rfl
    refine g_vret rfl rfl ?_
    exact ⟨_, rfl, hm6, hf7⟩
theorem c_listDoors {V : cg_V} {d q : Nat} (hd : 1 ≤ d) (hq : 21 ≤ q) {m : kM} (hm : kI m) {c r : Int} (h_c : 0 ≤ c ∧ c ≤ 90) (h_r : (-2147483648) ≤ r ∧ r ≤ 2147483647) : cg_S V d q mX7_listDoors [vR 17, vI c, vI r] (kl m) (R_V (fun m' => (kI m') ∧ (fr [21] [20] m m'))) := by
  have hf0 : fr [21] [20] m m := fr_rf m
  refine cg_of (List.mem_of_getElem? (show ae_MT[29]? = some mX7_listDoors from rfl)) (Nat.le_of_ble_eq_true rfl) ?_
  show cg_G V mX7_listDoors d q _ 0 [(0, vR 17), (1, vI c), (2, vI r)] [] (kl m) 0 0
  refine g_iload_n (n := 2) rfl rfl ?_
  refine g_if_lt (by omega) (by omega) rfl ?_ ?_
  · intro kk1
    refine g_vret rfl rfl ?_
    exact ⟨_, rfl, hm, hf0⟩
  · intro kk2
    refine g_iload_n (n := 2) rfl rfl ?_
    refine g_bipush (by decide) rfl ?_
    refine g_icmp_lt (by omega) (by omega) (by decide) (by decide) rfl ?_ ?_
    · intro kk3
      refine g_iconst rfl ?_
      refine g_istore_n (n := 3) (lo' := [(0, vR 17), (1, vI c), (2, vI r)]) rfl rfl ?_
      have L13_1 : ∀ (n13_1 : Nat) (i_1 : Int) (mL1 : kM), (kI mL1) → (fr [21] [20] m mL1) → (0 ≤ i_1 ∧ i_1 ≤ 10) → ((10 - i_1).toNat) = n13_1 → cg_G V mX7_listDoors d q (R_V (fun m' => (kI m') ∧ (fr [21] [20] m m'))) 13 [(3, vI i_1), (0, vR 17), (1, vI c), (2, vI r)] [] (kl mL1) 0 0 := by
        intro n13_1
        induction n13_1 using Nat.strongRecOn with
        | _ n13_1 ih13_1 =>
          intro i_1 mL1 hmL1 hfL1 i4 q5
          refine g_iload_n (n := 3) rfl rfl ?_
          refine g_aload_n (n := 0) rfl rfl ?_
          refine g_getf (v := vR 28) rfl (kl_17 _) rfl ?_
          refine g_iload_n (n := 2) rfl rfl ?_
          have h6 : 0 ≤ mL1.2.1 28 r ∧ mL1.2.1 28 r ≤ 10 := hmL1.2 28 r (by omega) (show r < (6 : Int) by omega)
          have h7 : mL1.2.1 28 r = m.2.1 28 r := congrFun (hfL1.2.1 28 rfl) _
          refine g_iald (f := mL1.2.1 28) rfl (kl_28 _) (by decide) (by omega) (by omega) ?_
          refine g_icmp_ge (by omega) (by omega) (by omega) (by omega) rfl ?_ ?_
          · intro kk8
            refine g_vret rfl rfl ?_
            exact ⟨_, rfl, hmL1, hfL1⟩
          · intro kk9
            refine g_aload_n (n := 0) rfl rfl ?_
            refine g_iload_n (n := 1) rfl rfl ?_
            refine g_aload_n (n := 0) rfl rfl ?_
            refine g_getf (v := vR 21) rfl (kl_17 _) rfl ?_
            refine g_iload_n (n := 2) rfl rfl ?_
            refine g_aald rfl (kl_21 _) (by decide) (by decide) (by omega) (by omega) ?_
            refine g_iload_n (n := 3) rfl rfl ?_
            have h10 : 0 ≤ mL1.2.1 (22 + Int.toNat (r)) i_1 ∧ mL1.2.1 (22 + Int.toNat (r)) i_1 ≤ 9 := kI_f22 hmL1 (show Int.toNat (r) < 6 by omega) i_1 (by omega) (by omega)
            refine g_iald (f := mL1.2.1 (22 + Int.toNat (r))) rfl (kl_f22 _ (show Int.toNat (r) < 6 by omega)) (by decide) (by omega) (by omega) ?_
            refine g_iadd rfl ?_
            refine c_vV (i := 17) (ps := [vI (c + mL1.2.1 (22 + Int.toNat (r)) i_1)]) (r := []) (as := [vR 17, vI (c + mL1.2.1 (22 + Int.toNat (r)) i_1)]) (cs' := 0) (sl' := 0) rfl rfl rfl rfl rfl rfl (kl_17 _) (c_listCode (d := d - 1) (q := q - (2 + 19)) (by omega) (by omega) hmL1 (c := (c + mL1.2.1 (22 + Int.toNat (r)) i_1)) (show 0 ≤ (c + mL1.2.1 (22 + Int.toNat (r)) i_1) ∧ (c + mL1.2.1 (22 + Int.toNat (r)) i_1) ≤ 99 by omega)) (by omega) (show 2 + 19 ≤ q by omega) (Nat.le_of_ble_eq_true rfl) (Nat.le_of_ble_eq_true rfl) rfl rfl rfl ?_
            rintro m12 ⟨hm14, hc15⟩
            have hf16 : fr [21] [20] m m12 := fr_tr hfL1 (fr_le hc15 rfl rfl)
            refine g_iinc (n := 3) (lo' := [(0, vR 17), (1, vI c), (2, vI r)]) rfl rfl rfl ?_
            refine g_goto rfl ?_
            exact ih13_1 _ (by omega) (i_1 + 1) m12 hm14 hf16 (by omega) rfl
      exact L13_1 _ 0 m hm hf0 (by omega) rfl
    · intro kk17
      refine g_vret rfl rfl ?_
      exact ⟨_, rfl, hm, hf0⟩
theorem c_listCodes {V : cg_V} {d q : Nat} (hd : 2 ≤ d) (hq : 44 ≤ q) {m : kM} (hm : kI m) {s g : Int} (h_s : (-2147483648) ≤ s ∧ s ≤ 2147483647) (h_g : 0 ≤ g ∧ g ≤ 1) : cg_S V d q mX7_listCodes [vR 17, vI s, vI g] (kl m) (R_V (fun m' => (kI m') ∧ (fr [21] [20] m m'))) := by
  have hf0 : fr [21] [20] m m := fr_rf m
  refine cg_of (List.mem_of_getElem? (show ae_MT[30]? = some mX7_listCodes from rfl)) (Nat.le_of_ble_eq_true rfl) ?_
  show cg_G V mX7_listCodes d q _ 0 [(0, vR 17), (1, vI s), (2, vI g)] [] (kl m) 0 0
  refine g_iload_n (n := 2) rfl rfl ?_
  refine g_bipush (by decide) rfl ?_
  refine g_imul rfl ?_
  refine g_istore_n (n := 3) (lo' := [(0, vR 17), (1, vI s), (2, vI g)]) rfl rfl ?_
  refine g_iload_n (n := 1) rfl rfl ?_
  refine g_iload_n (n := 2) rfl rfl ?_
  refine c_sI (ps := [vI g, vI s]) (r := []) (as := [vI s, vI g]) (cs' := 0) (sl' := 0) rfl rfl rfl rfl rfl rfl (c_roomOf (d := d - 1) (q := q - (2 + 19)) (by omega) (by omega) hm (s := s) (g := g) (show (-2147483648) ≤ s ∧ s ≤ 2147483647 by omega) (show 0 ≤ g ∧ g ≤ 1 by omega)) (by omega) (show 2 + 19 ≤ q by omega) (Nat.le_of_ble_eq_true rfl) (Nat.le_of_ble_eq_true rfl) rfl rfl rfl ?_
  rintro z1 m2 ⟨rfl, p4, p5⟩
  refine g_istore (n := 4) (lo' := [(3, vI (g * 50)), (0, vR 17), (1, vI s), (2, vI g)]) rfl rfl ?_
  refine g_iload_n (n := 1) rfl rfl ?_
  refine g_iload_n (n := 2) rfl rfl ?_
  refine c_sI (ps := [vI g, vI s]) (r := []) (as := [vI s, vI g]) (cs' := 0) (sl' := 0) rfl rfl rfl rfl rfl rfl (c_hasOf (d := d - 1) (q := q - (2 + 19)) (by omega) (by omega) hm (s := s) (g := g) (show (-2147483648) ≤ s ∧ s ≤ 2147483647 by omega) (show 0 ≤ g ∧ g ≤ 1 by omega)) (by omega) (show 2 + 19 ≤ q by omega) (Nat.le_of_ble_eq_true rfl) (Nat.le_of_ble_eq_true rfl) rfl rfl rfl ?_
  rintro z6 m7 ⟨rfl, p9, p10⟩
  have kk11 : z6 = 0 ∨ z6 = 1 ∨ z6 = 2 := by omega
  rcases kk11 with kk11 | kk11 | kk11
  · refine g_lsw (tg := 44) (off := 27) (by omega) (by omega) (show decode cX7_listCodes 17 = .ok (.lookupswitch 80 #[(0, 27), (1, 61)], 27) by decide +kernel) (by decide) (by rw [kk11]; rfl) (by decide) ?_
    refine g_aload_n (n := 0) rfl rfl ?_
    refine g_iload_n (n := 3) rfl rfl ?_
    refine g_iconst rfl ?_
    refine g_iadd rfl ?_
    refine c_vV (i := 17) (ps := [vI ((g * 50) + 0)]) (r := []) (as := [vR 17, vI ((g * 50) + 0)]) (cs' := 0) (sl' := 0) rfl rfl rfl rfl rfl rfl (kl_17 _) (c_listCode (d := d - 1) (q := q - (2 + 19)) (by omega) (by omega) hm (c := ((g * 50) + 0)) (show 0 ≤ ((g * 50) + 0) ∧ ((g * 50) + 0) ≤ 99 by omega)) (by omega) (show 2 + 19 ≤ q by omega) (Nat.le_of_ble_eq_true rfl) (Nat.le_of_ble_eq_true rfl) rfl rfl rfl ?_
    rintro m13 ⟨hm15, hc16⟩
    have hf17 : fr [21] [20] m m13 := fr_tr hf0 (fr_le hc16 rfl rfl)
    refine g_aload_n (n := 0) rfl rfl ?_
    refine g_iload_n (n := 3) rfl rfl ?_
    refine g_iconst rfl ?_
    refine g_iadd rfl ?_
    refine c_vV (i := 17) (ps := [vI ((g * 50) + 2)]) (r := []) (as := [vR 17, vI ((g * 50) + 2)]) (cs' := 0) (sl' := 0) rfl rfl rfl rfl rfl rfl (kl_17 _) (c_listCode (d := d - 1) (q := q - (2 + 19)) (by omega) (by omega) hm15 (c := ((g * 50) + 2)) (show 0 ≤ ((g * 50) + 2) ∧ ((g * 50) + 2) ≤ 99 by omega)) (by omega) (show 2 + 19 ≤ q by omega) (Nat.le_of_ble_eq_true rfl) (Nat.le_of_ble_eq_true rfl) rfl rfl rfl ?_
    rintro m19 ⟨hm21, hc22⟩
    have hf23 : fr [21] [20] m m19 := fr_tr hf17 (fr_le hc22 rfl rfl)
    refine g_iload_n (n := 1) rfl rfl ?_
    refine c_sI (ps := [vI s]) (r := []) (as := [vI s]) (cs' := 0) (sl' := 0) rfl rfl rfl rfl rfl rfl (c_turns (d := d - 1) (q := q - (1 + 19)) (by omega) (by omega) hm21 (s := s) (show (-2147483648) ≤ s ∧ s ≤ 2147483647 by omega)) (by omega) (show 1 + 19 ≤ q by omega) (Nat.le_of_ble_eq_true rfl) (Nat.le_of_ble_eq_true rfl) rfl rfl rfl ?_
    rintro z24 m25 ⟨rfl, p27, p28⟩
    refine g_if_le (by omega) (by omega) rfl ?_ ?_
    · intro kk29
      refine g_vret rfl rfl ?_
      exact ⟨_, rfl, hm21, hf23⟩
    · intro kk30
      refine g_aload_n (n := 0) rfl rfl ?_
      refine g_iload_n (n := 3) rfl rfl ?_
      refine g_bipush (by decide) rfl ?_
      refine g_iadd rfl ?_
      refine g_iload (n := 4) rfl rfl ?_
      refine c_vV (i := 17) (ps := [vI z1, vI ((g * 50) + 34)]) (r := []) (as := [vR 17, vI ((g * 50) + 34), vI z1]) (cs' := 0) (sl' := 0) rfl rfl rfl rfl rfl rfl (kl_17 _) (c_listDoors (d := d - 1) (q := q - (4 + 19)) (by omega) (by omega) hm21 (c := ((g * 50) + 34)) (r := z1) (show 0 ≤ ((g * 50) + 34) ∧ ((g * 50) + 34) ≤ 90 by omega) (show (-2147483648) ≤ z1 ∧ z1 ≤ 2147483647 by omega)) (by omega) (show 4 + 19 ≤ q by omega) (Nat.le_of_ble_eq_true rfl) (Nat.le_of_ble_eq_true rfl) rfl rfl rfl ?_
      rintro m32 ⟨hm34, hc35⟩
      have hf36 : fr [21] [20] m m32 := fr_tr hf23 (fr_le hc35 rfl rfl)
      refine g_goto rfl ?_
      refine g_vret rfl rfl ?_
      exact ⟨_, rfl, hm34, hf36⟩
  · refine g_lsw (tg := 78) (off := 61) (by omega) (by omega) (show decode cX7_listCodes 17 = .ok (.lookupswitch 80 #[(0, 27), (1, 61)], 27) by decide +kernel) (by decide) (by rw [kk11]; rfl) (by decide) ?_
    refine g_aload_n (n := 0) rfl rfl ?_
    refine g_iload_n (n := 3) rfl rfl ?_
    refine g_iconst rfl ?_
    refine g_iadd rfl ?_
    refine c_vV (i := 17) (ps := [vI ((g * 50) + 3)]) (r := []) (as := [vR 17, vI ((g * 50) + 3)]) (cs' := 0) (sl' := 0) rfl rfl rfl rfl rfl rfl (kl_17 _) (c_listCode (d := d - 1) (q := q - (2 + 19)) (by omega) (by omega) hm (c := ((g * 50) + 3)) (show 0 ≤ ((g * 50) + 3) ∧ ((g * 50) + 3) ≤ 99 by omega)) (by omega) (show 2 + 19 ≤ q by omega) (Nat.le_of_ble_eq_true rfl) (Nat.le_of_ble_eq_true rfl) rfl rfl rfl ?_
    rintro m38 ⟨hm40, hc41⟩
    have hf42 : fr [21] [20] m m38 := fr_tr hf0 (fr_le hc41 rfl rfl)
    refine g_aload_n (n := 0) rfl rfl ?_
    refine g_iload_n (n := 3) rfl rfl ?_
    refine g_iconst rfl ?_
    refine g_iadd rfl ?_
    refine g_iload (n := 4) rfl rfl ?_
    refine c_vV (i := 17) (ps := [vI z1, vI ((g * 50) + 4)]) (r := []) (as := [vR 17, vI ((g * 50) + 4), vI z1]) (cs' := 0) (sl' := 0) rfl rfl rfl rfl rfl rfl (kl_17 _) (c_listDoors (d := d - 1) (q := q - (4 + 19)) (by omega) (by omega) hm40 (c := ((g * 50) + 4)) (r := z1) (show 0 ≤ ((g * 50) + 4) ∧ ((g * 50) + 4) ≤ 90 by omega) (show (-2147483648) ≤ z1 ∧ z1 ≤ 2147483647 by omega)) (by omega) (show 4 + 19 ≤ q by omega) (Nat.le_of_ble_eq_true rfl) (Nat.le_of_ble_eq_true rfl) rfl rfl rfl ?_
    rintro m44 ⟨hm46, hc47⟩
    have hf48 : fr [21] [20] m m44 := fr_tr hf42 (fr_le hc47 rfl rfl)
    refine g_goto rfl ?_
    refine g_vret rfl rfl ?_
    exact ⟨_, rfl, hm46, hf48⟩
  · refine g_lsw (tg := 97) (off := 80) (by omega) (by omega) (show decode cX7_listCodes 17 = .ok (.lookupswitch 80 #[(0, 27), (1, 61)], 27) by decide +kernel) (by decide) (by rw [kk11]; rfl) (by decide) ?_
    refine g_aload_n (n := 0) rfl rfl ?_
    refine g_iload_n (n := 3) rfl rfl ?_
    refine g_iconst rfl ?_
    refine g_iadd rfl ?_
    refine c_vV (i := 17) (ps := [vI ((g * 50) + 1)]) (r := []) (as := [vR 17, vI ((g * 50) + 1)]) (cs' := 0) (sl' := 0) rfl rfl rfl rfl rfl rfl (kl_17 _) (c_listCode (d := d - 1) (q := q - (2 + 19)) (by omega) (by omega) hm (c := ((g * 50) + 1)) (show 0 ≤ ((g * 50) + 1) ∧ ((g * 50) + 1) ≤ 99 by omega)) (by omega) (show 2 + 19 ≤ q by omega) (Nat.le_of_ble_eq_true rfl) (Nat.le_of_ble_eq_true rfl) rfl rfl rfl ?_
    rintro m50 ⟨hm52, hc53⟩
    have hf54 : fr [21] [20] m m50 := fr_tr hf0 (fr_le hc53 rfl rfl)
    refine g_aload_n (n := 0) rfl rfl ?_
    refine g_iload_n (n := 3) rfl rfl ?_
    refine g_bipush (by decide) rfl ?_
    refine g_iadd rfl ?_
    refine g_iload (n := 4) rfl rfl ?_
    refine c_vV (i := 17) (ps := [vI z1, vI ((g * 50) + 14)]) (r := []) (as := [vR 17, vI ((g * 50) + 14), vI z1]) (cs' := 0) (sl' := 0) rfl rfl rfl rfl rfl rfl (kl_17 _) (c_listDoors (d := d - 1) (q := q - (4 + 19)) (by omega) (by omega) hm52 (c := ((g * 50) + 14)) (r := z1) (show 0 ≤ ((g * 50) + 14) ∧ ((g * 50) + 14) ≤ 90 by omega) (show (-2147483648) ≤ z1 ∧ z1 ≤ 2147483647 by omega)) (by omega) (show 4 + 19 ≤ q by omega) (Nat.le_of_ble_eq_true rfl) (Nat.le_of_ble_eq_true rfl) rfl rfl rfl ?_
    rintro m56 ⟨hm58, hc59⟩
    have hf60 : fr [21] [20] m m56 := fr_tr hf54 (fr_le hc59 rfl rfl)
    refine g_aload_n (n := 0) rfl rfl ?_
    refine g_iload_n (n := 3) rfl rfl ?_
    refine g_bipush (by decide) rfl ?_
    refine g_iadd rfl ?_
    refine g_iload (n := 4) rfl rfl ?_
    refine c_vV (i := 17) (ps := [vI z1, vI ((g * 50) + 24)]) (r := []) (as := [vR 17, vI ((g * 50) + 24), vI z1]) (cs' := 0) (sl' := 0) rfl rfl rfl rfl rfl rfl (kl_17 _) (c_listDoors (d := d - 1) (q := q - (4 + 19)) (by omega) (by omega) hm58 (c := ((g * 50) + 24)) (r := z1) (show 0 ≤ ((g * 50) + 24) ∧ ((g * 50) + 24) ≤ 90 by omega) (show (-2147483648) ≤ z1 ∧ z1 ≤ 2147483647 by omega)) (by omega) (show 4 + 19 ≤ q by omega) (Nat.le_of_ble_eq_true rfl) (Nat.le_of_ble_eq_true rfl) rfl rfl rfl ?_
    rintro m62 ⟨hm64, hc65⟩
    have hf66 : fr [21] [20] m m62 := fr_tr hf60 (fr_le hc65 rfl rfl)
    refine g_vret rfl rfl ?_
    exact ⟨_, rfl, hm64, hf66⟩
theorem c_reach {V : cg_V} {d q : Nat} (hd : 0 ≤ d) (hq : 0 ≤ q) {m : kM} (hm : kI m) {s a c : Int} (h_s : 0 ≤ s ∧ s ≤ 524287) (h_a : 0 ≤ a ∧ a ≤ 64511) (h_c : 0 ≤ c ∧ c ≤ 99) (h_kQ : kQ m) : cg_S V d q mX7_reach [vR 17, vI s, vI a, vI c] (kl m) (R_I (fun z m' => (kI m') ∧ (fr [20] [18, 19] m m') ∧ (kQ m') ∧ (m'.1 20 = m.1 20 + z) ∧ (z = 0 ∨ z = 1))) := by
  have hf0 : fr [20] [18, 19] m m := fr_rf m
  refine cg_of (List.mem_of_getElem? (show ae_MT[24]? = some mX7_reach from rfl)) (Nat.le_of_ble_eq_true rfl) ?_
  show cg_G V mX7_reach d q _ 0 [(0, vR 17), (1, vI s), (2, vI a), (3, vI c)] [] (kl m) 0 0
  have h1 : 0 ≤ m.1 20 ∧ m.1 20 ≤ 64512 := hm.1 20
  refine g_iload_n (n := 1) rfl rfl ?_
  refine g_bipush (by decide) rfl ?_
  refine g_ishr rfl ?_
  intro z2 h3 h4 h5
  have h6 : z2 = s / 64 := b_shrN h3 (by decide) (by omega) (by omega) (by decide) (by decide)
  refine g_aload_n (n := 0) rfl rfl ?_
  refine g_getf (v := vR 19) rfl (kl_17 _) rfl ?_
  refine g_alen rfl (kl_19 _) (by decide) (by decide) ?_
  refine g_iconst rfl ?_
  refine g_isub rfl ?_
  refine g_iand rfl ?_
  intro z7 h8 h9 h10
  have h11 : z7 = z2 % 8192 := b_modN (k := 13) h8 (by decide) (by decide) (by decide)
  refine g_istore (n := 4) (lo' := [(0, vR 17), (1, vI s), (2, vI a), (3, vI c)]) rfl rfl ?_
  refine g_lconst (x := 1) (by decide) rfl ?_
  refine g_iload_n (n := 1) rfl rfl ?_
  refine g_bipush (by decide) rfl ?_
  refine g_iand rfl ?_
  intro z12 h13 h14 h15
  have h16 : z12 = s % 64 := b_modN (k := 6) h13 (by decide) (by decide) (by decide)
  refine g_lshl rfl ?_
  intro z17 h18 h19 h20
  refine g_lstore (n := 5) (lo' := [(4, vI z7), (0, vR 17), (1, vI s), (2, vI a), (3, vI c)]) rfl rfl ?_
  refine g_aload_n (n := 0) rfl rfl ?_
  refine g_getf (v := vR 19) rfl (kl_17 _) rfl ?_
  refine g_iload (n := 4) rfl rfl ?_
  have h22 : (-9223372036854775808) ≤ m.2.1 19 z7 ∧ m.2.1 19 z7 ≤ 9223372036854775807 := hm.2 19 z7 (by omega) (show z7 < (8192 : Int) by omega)
  refine g_lald (f := m.2.1 19) rfl (kl_19 _) (by decide) (by omega) (by omega) ?_
  refine g_lload (n := 5) rfl rfl ?_
  refine g_land rfl ?_
  intro z23 h24 h25 h26
  refine g_lconst (x := 0) (by decide) rfl ?_
  refine g_lcmp (by omega) (by omega) (by decide) (by decide) rfl ?_
  intro z28 h29
  refine g_if_ne (by omega) (by omega) rfl ?_ ?_
  · intro kk30
    refine g_iconst rfl ?_
    refine g_zret rfl rfl (by omega) ?_
    exact ⟨_, _, rfl, hm, hf0, h_kQ, by omega, by omega⟩
  · intro kk31
    refine g_aload_n (n := 0) rfl rfl ?_
    refine g_getf (v := vI (m.1 20)) rfl (kl_17 _) rfl ?_
    refine g_ldci (x := 64512) rfl (by decide) rfl ?_
    refine g_icmp_lt (by omega) (by omega) (by decide) (by decide) rfl ?_ ?_
    · intro kk32
      refine g_aload_n (n := 0) rfl rfl ?_
      refine g_getf (v := vR 19) rfl (kl_17 _) rfl ?_
      refine g_iload (n := 4) rfl rfl ?_
      refine g_dup2 rfl rfl rfl ?_
      have h33 : (-9223372036854775808) ≤ m.2.1 19 z7 ∧ m.2.1 19 z7 ≤ 9223372036854775807 := hm.2 19 z7 (by omega) (show z7 < (8192 : Int) by omega)
      refine g_lald (f := m.2.1 19) rfl (kl_19 _) (by decide) (by omega) (by omega) ?_
      refine g_lload (n := 5) rfl rfl ?_
      refine g_lor rfl ?_
      intro z34 h35 h36 h37
      refine g_lAst (f := m.2.1 19) (m' := (kA m 19 (up (m.2.1 19) z7 z34))) rfl (kl_19 _) (by decide) (by omega) (by omega) (kA_19 _ _) ?_
      have hm39 : kI (kA m 19 (up (m.2.1 19) z7 z34)) := kI_U hm 19 rfl (show ((-9223372036854775808) : Int) ≤ z34 by omega) (show z34 ≤ (9223372036854775807 : Int) by omega)
      have hf40 : fr [20] [18, 19] m (kA m 19 (up (m.2.1 19) z7 z34)) := fr_A hf0 19 _ rfl
      refine g_aload_n (n := 0) rfl rfl ?_
      refine g_getf (v := vR 18) rfl (kl_17 _) rfl ?_
      refine g_aload_n (n := 0) rfl rfl ?_
      refine g_getf (v := vI (m.1 20)) rfl (kl_17 _) rfl ?_
      refine g_iload_n (n := 1) rfl rfl ?_
      refine g_i2l (by omega) (by omega) rfl ?_
      refine g_iload_n (n := 2) rfl rfl ?_
      refine g_i2l (by omega) (by omega) rfl ?_
      refine g_bipush (by decide) rfl ?_
      refine g_lshl rfl ?_
      intro z41 h42 h43 h44
      have h45 : z41 = a * 524288 := b_lshlN h42 (by decide) (by omega) (by decide) (by decide) (by omega)
      refine g_lor rfl ?_
      intro z46 h47 h48 h49
      have h50 : z46 = s + z41 := b_laddN (k := 19) (N := 524288) (w := a) h47 (by decide) (by omega) (by omega) (by omega) (by omega) (by omega)
      refine g_iload_n (n := 3) rfl rfl ?_
      refine g_i2l (by omega) (by omega) rfl ?_
      refine g_bipush (by decide) rfl ?_
      refine g_lshl rfl ?_
      intro z51 h52 h53 h54
      have h55 : z51 = c * 68719476736 := b_lshlN h52 (by decide) (by omega) (by decide) (by decide) (by omega)
      refine g_lor rfl ?_
      intro z56 h57 h58 h59
      have h60 : z56 = z46 + z51 := b_laddN (k := 36) (N := 68719476736) (w := c) h57 (by decide) (by omega) (by omega) (by omega) (by omega) (by omega)
      refine g_lAst (f := m.2.1 18) (m' := (kA (kA m 19 (up (m.2.1 19) z7 z34)) 18 (up (m.2.1 18) (m.1 20) z56))) rfl (kl_18 _) (by decide) (by omega) (by omega) (kA_18 _ _) ?_
      have hm61 : kI (kA (kA m 19 (up (m.2.1 19) z7 z34)) 18 (up (m.2.1 18) (m.1 20) z56)) := kI_U hm39 18 rfl (show ((-9223372036854775808) : Int) ≤ z56 by omega) (show z56 ≤ (9223372036854775807 : Int) by omega)
      have hf62 : fr [20] [18, 19] m (kA (kA m 19 (up (m.2.1 19) z7 z34)) 18 (up (m.2.1 18) (m.1 20) z56)) := fr_A hf40 18 _ rfl
      refine g_aload_n (n := 0) rfl rfl ?_
      refine g_dup rfl rfl ?_
      refine g_getf (v := vI (m.1 20)) rfl (kl_17 _) rfl ?_
      refine g_iconst rfl ?_
      refine g_iadd rfl ?_
      refine g_putF (m' := (kF (kA (kA m 19 (up (m.2.1 19) z7 z34)) 18 (up (m.2.1 18) (m.1 20) z56)) 20 (m.1 20 + 1))) rfl (kl_17 _) rfl rfl rfl rfl (kF_20 _ _) ?_
      have hm63 : kI (kF (kA (kA m 19 (up (m.2.1 19) z7 z34)) 18 (up (m.2.1 18) (m.1 20) z56)) 20 (m.1 20 + 1)) := kI_F hm61 20 (show (0 : Int) ≤ (m.1 20 + 1) by omega) (show (m.1 20 + 1) ≤ (64512 : Int) by omega)
      have hf64 : fr [20] [18, 19] m (kF (kA (kA m 19 (up (m.2.1 19) z7 z34)) 18 (up (m.2.1 18) (m.1 20) z56)) 20 (m.1 20 + 1)) := fr_F hf62 20 _ rfl
      refine g_iconst rfl ?_
      refine g_zret rfl rfl (by omega) ?_
      exact ⟨_, _, rfl, hm63, hf64, kQ_put h_kQ rfl (v := z56) rfl (by omega) (by omega), (show m.1 20 + 1 = m.1 20 + 1 from rfl), by omega⟩
    · intro kk65
      refine g_iconst rfl ?_
      refine g_zret rfl rfl (by omega) ?_
      exact ⟨_, _, rfl, hm, hf0, h_kQ, by omega, by omega⟩
theorem c_spread {V : cg_V} {d q : Nat} (hd : 4 ≤ d) (hq : 106 ≤ q) {m : kM} (hm : kI m) {a g : Int} (h_a : 0 ≤ a ∧ a ≤ 64511) (h_g : (-2147483648) ≤ g ∧ g ≤ 2147483647) (h_kQ : kQ m) : cg_S V d q mX7_spread [vR 17, vI a, vI g] (kl m) (R_I (fun z m' => (kI m') ∧ (fr [20, 21] [18, 19, 20] m m') ∧ (kQ m') ∧ (m.1 20 ≤ m'.1 20) ∧ (z = 0 ∨ z = 1))) := by
  have hf0 : fr [20, 21] [18, 19, 20] m m := fr_rf m
  refine cg_of (List.mem_of_getElem? (show ae_MT[31]? = some mX7_spread from rfl)) (Nat.le_of_ble_eq_true rfl) ?_
  show cg_G V mX7_spread d q _ 0 [(0, vR 17), (1, vI a), (2, vI g)] [] (kl m) 0 0
  have h1 : 0 ≤ m.1 20 ∧ m.1 20 ≤ 64512 := hm.1 20
  refine g_aload_n (n := 0) rfl rfl ?_
  refine g_iload_n (n := 1) rfl rfl ?_
  refine c_vI (i := 17) (ps := [vI a]) (r := []) (as := [vR 17, vI a]) (cs' := 0) (sl' := 0) rfl rfl rfl rfl rfl rfl (kl_17 _) (c_standingAt (d := d - 1) (q := q - (2 + 19)) (by omega) (by omega) hm (a := a) (show 0 ≤ a ∧ a ≤ 64511 by omega)) (by omega) (show 2 + 19 ≤ q by omega) (Nat.le_of_ble_eq_true rfl) (Nat.le_of_ble_eq_true rfl) rfl rfl rfl ?_
  rintro z2 m3 ⟨rfl, p5, p6⟩
  refine g_istore_n (n := 3) (lo' := [(0, vR 17), (1, vI a), (2, vI g)]) rfl rfl ?_
  refine g_aload_n (n := 0) rfl rfl ?_
  refine g_iconst rfl ?_
  refine g_putF (m' := (kF m 21 0)) rfl (kl_17 _) rfl rfl rfl rfl (kF_21 _ _) ?_
  have hm7 : kI (kF m 21 0) := kI_F hm 21 (show (0 : Int) ≤ 0 by omega) (show 0 ≤ (100 : Int) by omega)
  have hf8 : fr [20, 21] [18, 19, 20] m (kF m 21 0) := fr_F hf0 21 _ rfl
  refine g_aload_n (n := 0) rfl rfl ?_
  refine g_iload_n (n := 3) rfl rfl ?_
  refine g_iconst rfl ?_
  refine c_vV (i := 17) (ps := [vI 0, vI z2]) (r := []) (as := [vR 17, vI z2, vI 0]) (cs' := 0) (sl' := 0) rfl rfl rfl rfl rfl rfl (kl_17 _) (c_listCodes (d := d - 1) (q := q - (5 + 19)) (by omega) (by omega) hm7 (s := z2) (g := 0) (show (-2147483648) ≤ z2 ∧ z2 ≤ 2147483647 by omega) (show 0 ≤ 0 ∧ 0 ≤ 1 by omega)) (by omega) (show 5 + 19 ≤ q by omega) (Nat.le_of_ble_eq_true rfl) (Nat.le_of_ble_eq_true rfl) rfl rfl rfl ?_
  rintro m10 ⟨hm12, hc13⟩
  have hf14 : fr [20, 21] [18, 19, 20] m m10 := fr_tr hf8 (fr_le hc13 rfl rfl)
  have h15 : m10.1 20 = m.1 20 := hc13.1 20 rfl
  have h16 : 0 ≤ m10.1 20 ∧ m10.1 20 ≤ 64512 := hm12.1 20
  have t17 : kQ m10 := kQ_fr hc13 rfl rfl h_kQ
  refine g_aload_n (n := 0) rfl rfl ?_
  refine g_iload_n (n := 3) rfl rfl ?_
  refine g_iconst rfl ?_
  refine c_vV (i := 17) (ps := [vI 1, vI z2]) (r := []) (as := [vR 17, vI z2, vI 1]) (cs' := 0) (sl' := 0) rfl rfl rfl rfl rfl rfl (kl_17 _) (c_listCodes (d := d - 1) (q := q - (5 + 19)) (by omega) (by omega) hm12 (s := z2) (g := 1) (show (-2147483648) ≤ z2 ∧ z2 ≤ 2147483647 by omega) (show 0 ≤ 1 ∧ 1 ≤ 1 by omega)) (by omega) (show 5 + 19 ≤ q by omega) (Nat.le_of_ble_eq_true rfl) (Nat.le_of_ble_eq_true rfl) rfl rfl rfl ?_
  rintro m19 ⟨hm21, hc22⟩
  have hf23 : fr [20, 21] [18, 19, 20] m m19 := fr_tr hf14 (fr_le hc22 rfl rfl)
  have h24 : m19.1 20 = m10.1 20 := hc22.1 20 rfl
  have h25 : 0 ≤ m19.1 20 ∧ m19.1 20 ≤ 64512 := hm21.1 20
  have t26 : kQ m19 := kQ_fr hc22 rfl rfl t17
  refine g_iconst rfl ?_
  refine g_istore (n := 4) (lo' := [(3, vI z2), (0, vR 17), (1, vI a), (2, vI g)]) rfl rfl ?_
  have L26_1 : ∀ (n26_1 : Nat) (i_1 : Int) (mL1 : kM), (kI mL1) → (fr [20, 21] [18, 19, 20] m mL1) → (0 ≤ i_1 ∧ i_1 ≤ 100) → (kQ mL1) → (m.1 20 ≤ mL1.1 20) → ((100 - i_1).toNat) = n26_1 → cg_G V mX7_spread d q (R_I (fun z m' => (kI m') ∧ (fr [20, 21] [18, 19, 20] m m') ∧ (kQ m') ∧ (m.1 20 ≤ m'.1 20) ∧ (z = 0 ∨ z = 1))) 26 [(4, vI i_1), (3, vI z2), (0, vR 17), (1, vI a), (2, vI g)] [] (kl mL1) 0 0 := by
    intro n26_1
    induction n26_1 using Nat.strongRecOn with
    | _ n26_1 ih26_1 =>
      intro i_1 mL1 hmL1 hfL1 i27 i28 i29 q30
      refine g_iload (n := 4) rfl rfl ?_
      refine g_aload_n (n := 0) rfl rfl ?_
      have h31 : 0 ≤ mL1.1 21 ∧ mL1.1 21 ≤ 100 := hmL1.1 21
      refine g_getf (v := vI (mL1.1 21)) rfl (kl_17 _) rfl ?_
      refine g_icmp_ge (by omega) (by omega) (by omega) (by omega) rfl ?_ ?_
      · intro kk32
        refine g_iconst rfl ?_
        refine g_zret rfl rfl (by omega) ?_
        exact ⟨_, _, rfl, hmL1, hfL1, i28, (by omega), (by omega)⟩
      · intro kk33
        refine g_aload_n (n := 0) rfl rfl ?_
        refine g_getf (v := vR 15) rfl (kl_17 _) rfl ?_
        refine g_iload_n (n := 3) rfl rfl ?_
        refine g_aload_n (n := 0) rfl rfl ?_
        refine g_getf (v := vR 20) rfl (kl_17 _) rfl ?_
        refine g_iload (n := 4) rfl rfl ?_
        have h34 : 0 ≤ mL1.2.1 20 i_1 ∧ mL1.2.1 20 i_1 ≤ 99 := hmL1.2 20 i_1 (by omega) (show i_1 < (100 : Int) by omega)
        refine g_iald (f := mL1.2.1 20) rfl (kl_20 _) (by decide) (by omega) (by omega) ?_
        refine c_vI (i := 15) (ps := [vI (mL1.2.1 20 i_1), vI z2]) (r := []) (as := [vR 15, vI z2, vI (mL1.2.1 20 i_1)]) (cs' := 0) (sl' := 0) rfl rfl rfl rfl rfl rfl (kl_15 _) (c_after (d := d - 1) (q := q - (10 + 19)) (by omega) (by omega) hmL1 (s := z2) (c := mL1.2.1 20 i_1) (show 0 ≤ z2 ∧ z2 ≤ 524287 by omega) (show 0 ≤ mL1.2.1 20 i_1 ∧ mL1.2.1 20 i_1 ≤ 99 by omega)) (by omega) (show 10 + 19 ≤ q by omega) (Nat.le_of_ble_eq_true rfl) (Nat.le_of_ble_eq_true rfl) rfl rfl rfl ?_
        rintro z35 m36 ⟨rfl, p38, p39⟩
        refine g_istore (n := 5) (lo' := [(4, vI i_1), (3, vI z2), (0, vR 17), (1, vI a), (2, vI g)]) rfl rfl ?_
        refine g_iload (n := 5) rfl rfl ?_
        refine g_iconst rfl ?_
        refine g_icmp_eq (by omega) (by omega) (by decide) (by decide) rfl ?_ ?_
        · intro kk40
          refine g_iinc (n := 4) (lo' := [(5, vI z35), (3, vI z2), (0, vR 17), (1, vI a), (2, vI g)]) rfl rfl rfl ?_
          refine g_goto rfl ?_
          refine g_pick (lo' := [(4, vI (i_1 + 1)), (3, vI z2), (0, vR 17), (1, vI a), (2, vI g)]) [0, 2, 3, 4, 5] rfl ?_
          exact ih26_1 _ (by omega) (i_1 + 1) mL1 hmL1 hfL1 (by omega) i28 (by omega) rfl
        · intro kk41
          refine g_aload_n (n := 0) rfl rfl ?_
          refine g_iload (n := 5) rfl rfl ?_
          refine g_iload_n (n := 1) rfl rfl ?_
          refine g_aload_n (n := 0) rfl rfl ?_
          refine g_getf (v := vR 20) rfl (kl_17 _) rfl ?_
          refine g_iload (n := 4) rfl rfl ?_
          have h42 : 0 ≤ mL1.2.1 20 i_1 ∧ mL1.2.1 20 i_1 ≤ 99 := hmL1.2 20 i_1 (by omega) (show i_1 < (100 : Int) by omega)
          refine g_iald (f := mL1.2.1 20) rfl (kl_20 _) (by decide) (by omega) (by omega) ?_
          have h43 : 0 ≤ mL1.1 20 ∧ mL1.1 20 ≤ 64512 := hmL1.1 20
          refine c_vI (i := 17) (ps := [vI (mL1.2.1 20 i_1), vI a, vI z35]) (r := []) (as := [vR 17, vI z35, vI a, vI (mL1.2.1 20 i_1)]) (cs' := 0) (sl' := 0) rfl rfl rfl rfl rfl rfl (kl_17 _) (c_reach (d := d - 1) (q := q - (7 + 19)) (by omega) (by omega) hmL1 (s := z35) (a := a) (c := mL1.2.1 20 i_1) (show 0 ≤ z35 ∧ z35 ≤ 524287 by omega) (show 0 ≤ a ∧ a ≤ 64511 by omega) (show 0 ≤ mL1.2.1 20 i_1 ∧ mL1.2.1 20 i_1 ≤ 99 by omega) i28) (by omega) (show 7 + 19 ≤ q by omega) (Nat.le_of_ble_eq_true rfl) (Nat.le_of_ble_eq_true rfl) rfl rfl rfl ?_
          rintro z44 m45 ⟨hm47, hc48, p49, p50, p51⟩
          have hf52 : fr [20, 21] [18, 19, 20] m m45 := fr_tr hfL1 (fr_le hc48 rfl rfl)
          have h53 : m45.1 21 = mL1.1 21 := hc48.1 21 rfl
          have h54 : 0 ≤ m45.1 21 ∧ m45.1 21 ≤ 100 := hm47.1 21
          refine g_if_eq (by omega) (by omega) rfl ?_ ?_
          · intro kk55
            refine g_iinc (n := 4) (lo' := [(5, vI z35), (3, vI z2), (0, vR 17), (1, vI a), (2, vI g)]) rfl rfl rfl ?_
            refine g_goto rfl ?_
            refine g_pick (lo' := [(4, vI (i_1 + 1)), (3, vI z2), (0, vR 17), (1, vI a), (2, vI g)]) [0, 2, 3, 4, 5] rfl ?_
            exact ih26_1 _ (by omega) (i_1 + 1) m45 hm47 hf52 (by omega) p49 (by omega) rfl
          · intro kk56
            refine g_iload (n := 5) rfl rfl ?_
            refine g_iload_n (n := 2) rfl rfl ?_
            refine c_sI (ps := [vI g, vI z35]) (r := []) (as := [vI z35, vI g]) (cs' := 0) (sl' := 0) rfl rfl rfl rfl rfl rfl (c_fits (d := d - 1) (q := q - (2 + 19)) (by omega) (by omega) hm47 (s := z35) (g := g) (show (-2147483648) ≤ z35 ∧ z35 ≤ 2147483647 by omega) (show (-2147483648) ≤ g ∧ g ≤ 2147483647 by omega)) (by omega) (show 2 + 19 ≤ q by omega) (Nat.le_of_ble_eq_true rfl) (Nat.le_of_ble_eq_true rfl) rfl rfl rfl ?_
            rintro z57 m58 ⟨rfl, p60⟩
            refine g_if_eq (by omega) (by omega) rfl ?_ ?_
            · intro kk61
              refine g_iinc (n := 4) (lo' := [(5, vI z35), (3, vI z2), (0, vR 17), (1, vI a), (2, vI g)]) rfl rfl rfl ?_
              refine g_goto rfl ?_
              refine g_pick (lo' := [(4, vI (i_1 + 1)), (3, vI z2), (0, vR 17), (1, vI a), (2, vI g)]) [0, 2, 3, 4, 5] rfl ?_
              exact ih26_1 _ (by omega) (i_1 + 1) m45 hm47 hf52 (by omega) p49 (by omega) rfl
            · intro kk62
              refine g_iconst rfl ?_
              refine g_zret rfl rfl (by omega) ?_
              exact ⟨_, _, rfl, hm47, hf52, p49, (by omega), (by omega)⟩
  exact L26_1 _ 0 m19 hm21 hf23 (by omega) t26 (by omega) rfl
theorem c_wipe {V : cg_V} {d q : Nat} (hd : 1 ≤ d) (hq : 21 ≤ q) {m : kM} (hm : kI m) : cg_S V d q mX7_wipe [vR 17] (kl m) (R_V (fun m' => (kI m') ∧ (fr [] [19] m m'))) := by
  have hf0 : fr [] [19] m m := fr_rf m
  refine cg_of (List.mem_of_getElem? (show ae_MT[35]? = some mX7_wipe from rfl)) (Nat.le_of_ble_eq_true rfl) ?_
  show cg_G V mX7_wipe d q _ 0 [(0, vR 17)] [] (kl m) 0 0
  refine g_iconst rfl ?_
  refine g_istore_n (n := 1) (lo' := [(0, vR 17)]) rfl rfl ?_
  have L2_1 : ∀ (n2_1 : Nat) (i_1 : Int) (mL1 : kM), (kI mL1) → (fr [] [19] m mL1) → (0 ≤ i_1 ∧ i_1 ≤ 64512) → ((64512 - i_1).toNat) = n2_1 → cg_G V mX7_wipe d q (R_V (fun m' => (kI m') ∧ (fr [] [19] m m'))) 2 [(1, vI i_1), (0, vR 17)] [] (kl mL1) 0 0 := by
    intro n2_1
    induction n2_1 using Nat.strongRecOn with
    | _ n2_1 ih2_1 =>
      intro i_1 mL1 hmL1 hfL1 i1 q2
      refine g_iload_n (n := 1) rfl rfl ?_
      refine g_aload_n (n := 0) rfl rfl ?_
      have h3 : 0 ≤ mL1.1 20 ∧ mL1.1 20 ≤ 64512 := hmL1.1 20
      have h4 : mL1.1 20 = m.1 20 := hfL1.1 20 rfl
      refine g_getf (v := vI (mL1.1 20)) rfl (kl_17 _) rfl ?_
      refine g_icmp_ge (by omega) (by omega) (by omega) (by omega) rfl ?_ ?_
      · intro kk5
        refine g_vret rfl rfl ?_
        exact ⟨_, rfl, hmL1, hfL1⟩
      · intro kk6
        refine g_aload_n (n := 0) rfl rfl ?_
        refine g_getf (v := vR 19) rfl (kl_17 _) rfl ?_
        refine g_aload_n (n := 0) rfl rfl ?_
        refine g_iload_n (n := 1) rfl rfl ?_
        refine c_vI (i := 17) (ps := [vI i_1]) (r := [vR 19]) (as := [vR 17, vI i_1]) (cs' := 0) (sl' := 0) rfl rfl rfl rfl rfl rfl (kl_17 _) (c_standingAt (d := d - 1) (q := q - (2 + 19)) (by omega) (by omega) hmL1 (a := i_1) (show 0 ≤ i_1 ∧ i_1 ≤ 64511 by omega)) (by omega) (show 2 + 19 ≤ q by omega) (Nat.le_of_ble_eq_true rfl) (Nat.le_of_ble_eq_true rfl) rfl rfl rfl ?_
        rintro z7 m8 ⟨rfl, p10, p11⟩
        refine g_bipush (by decide) rfl ?_
        refine g_ishr rfl ?_
        intro z12 h13 h14 h15
        have h16 : z12 = z7 / 64 := b_shrN h13 (by decide) (by omega) (by omega) (by decide) (by decide)
        refine g_lconst (x := 0) (by decide) rfl ?_
        refine g_lAst (f := mL1.2.1 19) (m' := (kA mL1 19 (up (mL1.2.1 19) z12 0))) rfl (kl_19 _) (by decide) (by omega) (by omega) (kA_19 _ _) ?_
        have hm17 : kI (kA mL1 19 (up (mL1.2.1 19) z12 0)) := kI_U hmL1 19 rfl (show ((-9223372036854775808) : Int) ≤ 0 by omega) (show 0 ≤ (9223372036854775807 : Int) by omega)
        have hf18 : fr [] [19] m (kA mL1 19 (up (mL1.2.1 19) z12 0)) := fr_A hfL1 19 _ rfl
        refine g_iinc (n := 1) (lo' := [(0, vR 17)]) rfl rfl rfl ?_
        refine g_goto rfl ?_
        exact ih2_1 _ (by omega) (i_1 + 1) (kA mL1 19 (up (mL1.2.1 19) z12 0)) hm17 hf18 (by omega) rfl
  exact L2_1 _ 0 m hm hf0 (by omega) rfl
