/-! ===== contracts: the model, its search ===== -/
theorem d_search {V : cg_V} {d q : Nat} (hd : 5 ≤ d) (hq : 124 ≤ q) {m : kM} (hm : kI m) {v : Int} (h_v : 0 ≤ v ∧ v ≤ 1) (h_k4 : k4 m) (h_kD : kD m) (hx : kv (m.1 28) (kr5 (m.2.1 62))) : cg_S V d q mX10_search [vR 61, vI v] (kl m) (R_I (fun z m' => (kI m') ∧ (fr [37] [62, 68, 69] m m') ∧ (z = -1 ∨ (0 ≤ z ∧ z ≤ 400)) ∧ (∀ j : Int, (j < 24 ∨ 40 ≤ j) → m'.2.1 62 j = m.2.1 62 j) ∧ (k4 m') ∧ (kD m'))) := by
  have hf0 : fr [37] [62, 68, 69] m m := fr_rf m
  refine cg_of (List.mem_of_getElem? (show ae_MT[163]? = some mX10_search from rfl)) (Nat.le_of_ble_eq_true rfl) ?_
  show cg_G V mX10_search d q _ 0 [(0, vR 61), (1, vI v)] [] (kl m) 0 0
  have w28 : 0 ≤ m.1 28 ∧ m.1 28 ≤ 63 := hm.1 28
  refine g_iconst rfl ?_
  refine g_istore_n (n := 2) (lo' := [(0, vR 61), (1, vI v)]) rfl rfl ?_
  have L2_1 : ∀ (n2_1 : Nat) (i_1 : Int) (mL1 : kM), (kI mL1) → (fr [37] [62, 68, 69] m mL1) → (0 ≤ i_1 ∧ i_1 ≤ 64512) → (∀ y : Int, 0 ≤ y → y < i_1 → mL1.2.1 68 y = -1) → (mL1.2.1 62 = m.2.1 62) → (k4 mL1) → (kD mL1) → ((64512 - i_1).toNat) = n2_1 → cg_G V mX10_search d q (R_I (fun z m' => (kI m') ∧ (fr [37] [62, 68, 69] m m') ∧ (z = -1 ∨ (0 ≤ z ∧ z ≤ 400)) ∧ (∀ j : Int, (j < 24 ∨ 40 ≤ j) → m'.2.1 62 j = m.2.1 62 j) ∧ (k4 m') ∧ (kD m'))) 2 [(2, vI i_1), (0, vR 61), (1, vI v)] [] (kl mL1) 0 0 := by
    intro n2_1
    induction n2_1 using Nat.strongRecOn with
    | _ n2_1 ih2_1 =>
      intro i_1 mL1 hmL1 hfL1 i1 iM iS i4 iD q2
      refine g_iload_n (n := 2) rfl rfl ?_
      refine g_ldci (x := 64512) rfl (by decide) rfl ?_
      refine g_icmp_ge (by omega) (by omega) (by decide) (by decide) rfl ?_ ?_
      · intro k3
        refine g_aload_n (n := 0) rfl rfl ?_
        refine g_iconst rfl ?_
        have h4 : 0 ≤ mL1.1 28 ∧ mL1.1 28 ≤ 63 := hmL1.1 28
        have h5 : mL1.1 28 = m.1 28 := hfL1.1 28 rfl
        refine c_vI (i := 61) (ps := [vI 5]) (r := []) (as := [vR 61, vI 5]) (cs' := 0) (sl' := 0) rfl rfl rfl rfl rfl rfl (kl_61 _) (d_numberOf_5 (d := d - 1) (q := q - (6 + 19)) (by omega) (by omega) hmL1  i4 (by rw [iS]; exact hx.1)) (by omega) (show 6 + 19 ≤ q by omega) (Nat.le_of_ble_eq_true rfl) (Nat.le_of_ble_eq_true rfl) rfl rfl rfl ?_
        rintro z6 m7 ⟨rfl, p9, p10, p11⟩
        have h12 : z6 = (num (mL1.1 28) (kr5 (mL1.2.1 62))) := p9
        subst h12
        refine g_istore_n (n := 2) (lo' := [(0, vR 61), (1, vI v)]) rfl rfl ?_
        refine g_aload_n (n := 0) rfl rfl ?_
        refine g_getf (v := vR 68) rfl (kl_61 _) rfl ?_
        refine g_iload_n (n := 2) rfl rfl ?_
        refine g_iconst rfl ?_
        refine g_iAst (f := mL1.2.1 68) (m' := (kA mL1 68 (up (mL1.2.1 68) (num (mL1.1 28) (kr5 (mL1.2.1 62))) 0))) rfl (kl_68 _) (by decide) (by omega) (by omega) (kA_68 _ _) ?_
        have hm13 : kI (kA mL1 68 (up (mL1.2.1 68) (num (mL1.1 28) (kr5 (mL1.2.1 62))) 0)) := kI_U hmL1 68 rfl (show ((-2147483648) : Int) ≤ 0 by omega) (show 0 ≤ (2147483647 : Int) by omega)
        have hf14 : fr [37] [62, 68, 69] m (kA mL1 68 (up (mL1.2.1 68) (num (mL1.1 28) (kr5 (mL1.2.1 62))) 0)) := fr_A hfL1 68 _ rfl
        refine g_aload_n (n := 0) rfl rfl ?_
        refine g_getf (v := vR 69) rfl (kl_61 _) rfl ?_
        refine g_iconst rfl ?_
        refine g_iload_n (n := 2) rfl rfl ?_
        refine g_iAst (f := mL1.2.1 69) (m' := (kA (kA mL1 68 (up (mL1.2.1 68) (num (mL1.1 28) (kr5 (mL1.2.1 62))) 0)) 69 (up (mL1.2.1 69) 0 (num (mL1.1 28) (kr5 (mL1.2.1 62)))))) rfl (kl_69 _) (by decide) (by omega) (by omega) (kA_69 _ _) ?_
        have hm15 : kI (kA (kA mL1 68 (up (mL1.2.1 68) (num (mL1.1 28) (kr5 (mL1.2.1 62))) 0)) 69 (up (mL1.2.1 69) 0 (num (mL1.1 28) (kr5 (mL1.2.1 62))))) := kI_U hm13 69 rfl (show (0 : Int) ≤ (num (mL1.1 28) (kr5 (mL1.2.1 62))) by omega) (show (num (mL1.1 28) (kr5 (mL1.2.1 62))) ≤ (64511 : Int) by omega)
        have hf16 : fr [37] [62, 68, 69] m (kA (kA mL1 68 (up (mL1.2.1 68) (num (mL1.1 28) (kr5 (mL1.2.1 62))) 0)) 69 (up (mL1.2.1 69) 0 (num (mL1.1 28) (kr5 (mL1.2.1 62))))) := fr_A hf14 69 _ rfl
        refine g_aload_n (n := 0) rfl rfl ?_
        refine g_iconst rfl ?_
        refine g_putF (m' := (kF (kA (kA mL1 68 (up (mL1.2.1 68) (num (mL1.1 28) (kr5 (mL1.2.1 62))) 0)) 69 (up (mL1.2.1 69) 0 (num (mL1.1 28) (kr5 (mL1.2.1 62))))) 37 1)) rfl (kl_61 _) rfl rfl rfl rfl (kF_37 _ _) ?_
        have hm17 : kI (kF (kA (kA mL1 68 (up (mL1.2.1 68) (num (mL1.1 28) (kr5 (mL1.2.1 62))) 0)) 69 (up (mL1.2.1 69) 0 (num (mL1.1 28) (kr5 (mL1.2.1 62))))) 37 1) := kI_F hm15 37 (show (0 : Int) ≤ 1 by omega) (show 1 ≤ (64512 : Int) by omega)
        have hf18 : fr [37] [62, 68, 69] m (kF (kA (kA mL1 68 (up (mL1.2.1 68) (num (mL1.1 28) (kr5 (mL1.2.1 62))) 0)) 69 (up (mL1.2.1 69) 0 (num (mL1.1 28) (kr5 (mL1.2.1 62))))) 37 1) := fr_F hf16 37 _ rfl
        refine g_iconst rfl ?_
        refine g_istore_n (n := 3) (lo' := [(2, vI (num (mL1.1 28) (kr5 (mL1.2.1 62)))), (0, vR 61), (1, vI v)]) rfl rfl ?_
        have e28 : mL1.1 28 = m.1 28 := hfL1.1 28 rfl
        have hun := unn_num w28.1 w28.2 h_k4 hx
        have hB0 : bB (m.2.1 66) (m.1 26) (m.1 27) (m.1 28) (kr5 (m.2.1 62)) ((kF (kA (kA mL1 68 (up (mL1.2.1 68) (num (mL1.1 28) (kr5 (mL1.2.1 62))) 0)) 69 (up (mL1.2.1 69) 0 (num (mL1.1 28) (kr5 (mL1.2.1 62))))) 37 1).2.1 68) ((kF (kA (kA mL1 68 (up (mL1.2.1 68) (num (mL1.1 28) (kr5 (mL1.2.1 62))) 0)) 69 (up (mL1.2.1 69) 0 (num (mL1.1 28) (kr5 (mL1.2.1 62))))) 37 1).2.1 69) ((kF (kA (kA mL1 68 (up (mL1.2.1 68) (num (mL1.1 28) (kr5 (mL1.2.1 62))) 0)) 69 (up (mL1.2.1 69) 0 (num (mL1.1 28) (kr5 (mL1.2.1 62))))) 37 1).1 37) 0 0 := by
          show bB (m.2.1 66) (m.1 26) (m.1 27) (m.1 28) (kr5 (m.2.1 62)) (up (mL1.2.1 68) (num (mL1.1 28) (kr5 (mL1.2.1 62))) 0) (up (mL1.2.1 69) 0 (num (mL1.1 28) (kr5 (mL1.2.1 62)))) 1 0 0
          rw [e28, iS]
          exact bB_init hun.2.1 hun.2.2 hun.1 (fun y a b => iM y a (by omega))
        have hR0 : ∀ j : Int, (j < 24 ∨ 40 ≤ j) → (kF (kA (kA mL1 68 (up (mL1.2.1 68) (num (mL1.1 28) (kr5 (mL1.2.1 62))) 0)) 69 (up (mL1.2.1 69) 0 (num (mL1.1 28) (kr5 (mL1.2.1 62))))) 37 1).2.1 62 j = m.2.1 62 j := fun j _ => by show mL1.2.1 62 j = _; rw [iS]
        have L48_2 : ∀ (n48_2 : Nat) (k_2 : Int) (mL2 : kM), (kI mL2) → (fr [37] [62, 68, 69] m mL2) → (0 ≤ k_2 ∧ k_2 ≤ 64512) → (bB (m.2.1 66) (m.1 26) (m.1 27) (m.1 28) (kr5 (m.2.1 62)) (mL2.2.1 68) (mL2.2.1 69) (mL2.1 37) k_2 0) → (∀ p : Int, 0 ≤ p → p < k_2 → ¬ ends v (unn (m.1 28) (mL2.2.1 69 p))) → (∀ j : Int, (j < 24 ∨ 40 ≤ j) → mL2.2.1 62 j = m.2.1 62 j) → (k4 mL2) → (kD mL2) → ((64512 - k_2).toNat) = n48_2 → cg_G V mX10_search d q (R_I (fun z m' => (kI m') ∧ (fr [37] [62, 68, 69] m m') ∧ (z = -1 ∨ (0 ≤ z ∧ z ≤ 400)) ∧ (∀ j : Int, (j < 24 ∨ 40 ≤ j) → m'.2.1 62 j = m.2.1 62 j) ∧ (k4 m') ∧ (kD m'))) 48 [(3, vI k_2), (2, vI (num (mL1.1 28) (kr5 (mL1.2.1 62)))), (0, vR 61), (1, vI v)] [] (kl mL2) 0 0 := by
          intro n48_2
          induction n48_2 using Nat.strongRecOn with
          | _ n48_2 ih48_2 =>
            intro k_2 mL2 hmL2 hfL2 i19 iB iE iR i4 iD q20
            refine g_iload_n (n := 3) rfl rfl ?_
            refine g_aload_n (n := 0) rfl rfl ?_
            have h21 : 0 ≤ mL2.1 37 ∧ mL2.1 37 ≤ 64512 := hmL2.1 37
            refine g_getf (v := vI (mL2.1 37)) rfl (kl_61 _) rfl ?_
            refine g_icmp_ge (by omega) (by omega) (by omega) (by omega) rfl ?_ ?_
            · intro k22
              refine g_iconst rfl ?_
              refine g_iret rfl rfl ?_
              exact ⟨_, _, rfl, hmL2, hfL2, Or.inl rfl, iR, i4, iD⟩
            · intro k23
              refine g_aload_n (n := 0) rfl rfl ?_
              refine g_aload_n (n := 0) rfl rfl ?_
              refine g_getf (v := vR 69) rfl (kl_61 _) rfl ?_
              refine g_iload_n (n := 3) rfl rfl ?_
              have h24 : 0 ≤ mL2.2.1 69 k_2 ∧ mL2.2.1 69 k_2 ≤ 64511 := hmL2.2 69 k_2 (by omega) (show k_2 < (64512 : Int) by omega)
              refine g_iald (f := mL2.2.1 69) rfl (kl_69 _) (by decide) (by omega) (by omega) ?_
              refine g_iconst rfl ?_
              have h25 : 0 ≤ mL2.1 28 ∧ mL2.1 28 ≤ 63 := hmL2.1 28
              have h26 : mL2.1 28 = m.1 28 := hfL2.1 28 rfl
              refine c_vV (i := 61) (ps := [vI 3, vI (mL2.2.1 69 k_2)]) (r := []) (as := [vR 61, vI (mL2.2.1 69 k_2), vI 3]) (cs' := 0) (sl' := 0) rfl rfl rfl rfl rfl rfl (kl_61 _) (d_layStanding (d := d - 1) (q := q - (6 + 19)) (by omega) (by omega) hmL2 (n := mL2.2.1 69 k_2) (show 0 ≤ mL2.2.1 69 k_2 ∧ mL2.2.1 69 k_2 ≤ 64511 by omega)) (by omega) (show 6 + 19 ≤ q by omega) (Nat.le_of_ble_eq_true rfl) (Nat.le_of_ble_eq_true rfl) rfl rfl rfl ?_
              rintro m28 ⟨hm30, hc31, p32, p33⟩
              have hf34 : fr [37] [62, 68, 69] m m28 := fr_tr hfL2 (fr_le hc31 rfl rfl)
              have h35 : m28.1 28 = mL2.1 28 := hc31.1 28 rfl
              have h36 : 0 ≤ m28.1 28 ∧ m28.1 28 ≤ 63 := hm30.1 28
              have h37 : m28.1 37 = mL2.1 37 := hc31.1 37 rfl
              have h38 : 0 ≤ m28.1 37 ∧ m28.1 37 ≤ 64512 := hm30.1 37
              have t39 : k4 m28 := k4_fr hc31 rfl rfl i4
              have t40 : kD m28 := kD_fr hc31 rfl rfl iD
              have q28 : mL2.1 28 = m.1 28 := hfL2.1 28 rfl
              have hu : kr3 (m28.2.1 62) = unn (m.1 28) (mL2.2.1 69 k_2) := by rw [← q28]; exact p32
              have hkN : 0 ≤ k_2 ∧ k_2 < mL2.1 37 := by omega
              refine g_aload_n (n := 0) rfl rfl ?_
              refine g_iload_n (n := 1) rfl rfl ?_
              refine c_vI (i := 61) (ps := [vI v]) (r := []) (as := [vR 61, vI v]) (cs' := 0) (sl' := 0) rfl rfl rfl rfl rfl rfl (kl_61 _) (d_isEnd (d := d - 1) (q := q - (3 + 19)) (by omega) (by omega) hm30 (v := v) (show 0 ≤ v ∧ v ≤ 1 by omega)) (by omega) (show 3 + 19 ≤ q by omega) (Nat.le_of_ble_eq_true rfl) (Nat.le_of_ble_eq_true rfl) rfl rfl rfl ?_
              rintro z41 m42 ⟨rfl, p44⟩
              refine g_if_eq (by omega) (by omega) rfl ?_ ?_
              · intro k45
                have e68 : m28.2.1 68 = mL2.2.1 68 := hc31.2.1 68 rfl
                have e69 : m28.2.1 69 = mL2.2.1 69 := hc31.2.1 69 rfl
                have e37 : m28.1 37 = mL2.1 37 := hc31.1 37 rfl
                have e66 : m28.2.1 66 = m.2.1 66 := (hc31.2.1 66 rfl).trans (hfL2.2.1 66 rfl)
                have e26 : m28.1 26 = m.1 26 := (hc31.1 26 rfl).trans (hfL2.1 26 rfl)
                have e27 : m28.1 27 = m.1 27 := (hc31.1 27 rfl).trans (hfL2.1 27 rfl)
                have e28 : m28.1 28 = m.1 28 := (hc31.1 28 rfl).trans (hfL2.1 28 rfl)
                have hBo : bB (m28.2.1 66) (m28.1 26) (m28.1 27) (m28.1 28) (kr5 (m.2.1 62)) (m28.2.1 68) (m28.2.1 69) (m28.1 37) k_2 0 := by rw [e66, e26, e27, e28, e68, e69, e37]; exact iB
                have huo : kr3 (m28.2.1 62) = unn (m28.1 28) (m28.2.1 69 k_2) := by rw [e28, e69]; exact hu
                have hko : 0 ≤ k_2 ∧ k_2 < m28.1 37 := by rw [e37]; exact hkN
                refine g_aload_n (n := 0) rfl rfl ?_
                refine g_aload_n (n := 0) rfl rfl ?_
                refine g_getf (v := vR 69) rfl (kl_61 _) rfl ?_
                refine g_iload_n (n := 3) rfl rfl ?_
                have h46 : 0 ≤ m28.2.1 69 k_2 ∧ m28.2.1 69 k_2 ≤ 64511 := hm30.2 69 k_2 (by omega) (show k_2 < (64512 : Int) by omega)
                have h47 : m28.2.1 69 k_2 = mL2.2.1 69 k_2 := congrFun (hc31.2.1 69 rfl) _
                refine g_iald (f := m28.2.1 69) rfl (kl_69 _) (by decide) (by omega) (by omega) ?_
                have h48 : 0 ≤ m28.1 26 ∧ m28.1 26 ≤ 10 := hm30.1 26
                have h49 : m28.1 26 = mL2.1 26 := hc31.1 26 rfl
                have h50 : 0 ≤ m28.1 27 ∧ m28.1 27 ≤ 5 := hm30.1 27
                have h51 : m28.1 27 = mL2.1 27 := hc31.1 27 rfl
                refine c_vV (i := 61) (ps := [vI (m28.2.1 69 k_2)]) (r := []) (as := [vR 61, vI (m28.2.1 69 k_2)]) (cs' := 0) (sl' := 0) rfl rfl rfl rfl rfl rfl (kl_61 _) (d_open (d := d - 1) (q := q - (5 + 19)) (by omega) (by omega) hm30 (n := m28.2.1 69 k_2) (show 0 ≤ m28.2.1 69 k_2 ∧ m28.2.1 69 k_2 ≤ 64511 by omega) t39 t40 hko rfl huo hBo) (by omega) (show 5 + 19 ≤ q by omega) (Nat.le_of_ble_eq_true rfl) (Nat.le_of_ble_eq_true rfl) rfl rfl rfl ?_
                rintro m53 ⟨hm55, hc56, p57, p58, p59, p60⟩
                have hf61 : fr [37] [62, 68, 69] m m53 := fr_tr hf34 (fr_le hc56 rfl rfl)
                have h62 : m53.1 26 = m28.1 26 := hc56.1 26 rfl
                have h63 : 0 ≤ m53.1 26 ∧ m53.1 26 ≤ 10 := hm55.1 26
                have h64 : m53.1 27 = m28.1 27 := hc56.1 27 rfl
                have h65 : 0 ≤ m53.1 27 ∧ m53.1 27 ≤ 5 := hm55.1 27
                have h66 : m53.1 28 = m28.1 28 := hc56.1 28 rfl
                have h67 : 0 ≤ m53.1 28 ∧ m53.1 28 ≤ 63 := hm55.1 28
                have t68 : k4 m53 := k4_fr hc56 rfl rfl t39
                have t69 : kD m53 := kD_fr hc56 rfl rfl t40
                have hBn : bB (m.2.1 66) (m.1 26) (m.1 27) (m.1 28) (kr5 (m.2.1 62)) (m53.2.1 68) (m53.2.1 69) (m53.1 37) (k_2 + 1) 0 := by
                  have h9 := p57
                  rw [e66, e26, e27, e28] at h9
                  exact bB_next h9 (by omega)
                have hEn : ∀ p : Int, 0 ≤ p → p < k_2 + 1 → ¬ ends v (unn (m.1 28) (m53.2.1 69 p)) := fun p a b => by
                  rw [p59 p a (by omega), e69]
                  by_cases e : p = k_2
                  · rw [e, ← hu]; exact (p44.resolve_left (by omega)).2
                  · exact iE p a (by omega)
                have hRn : ∀ j : Int, (j < 24 ∨ 40 ≤ j) → m53.2.1 62 j = m.2.1 62 j := fun j hj => (p60 j (by omega)).trans ((p33 j (by omega)).trans (iR j hj))
                refine g_iinc (n := 3) (lo' := [(2, vI (num (mL1.1 28) (kr5 (mL1.2.1 62)))), (0, vR 61), (1, vI v)]) rfl rfl rfl ?_
                refine g_goto rfl ?_
                exact ih48_2 _ (by omega) (k_2 + 1) m53 hm55 hf61 (by omega) hBn hEn hRn t68 t69 rfl
              · intro k70
                refine g_aload_n (n := 0) rfl rfl ?_
                refine g_getf (v := vR 68) rfl (kl_61 _) rfl ?_
                refine g_aload_n (n := 0) rfl rfl ?_
                refine g_getf (v := vR 69) rfl (kl_61 _) rfl ?_
                refine g_iload_n (n := 3) rfl rfl ?_
                have h71 : 0 ≤ m28.2.1 69 k_2 ∧ m28.2.1 69 k_2 ≤ 64511 := hm30.2 69 k_2 (by omega) (show k_2 < (64512 : Int) by omega)
                have h72 : m28.2.1 69 k_2 = mL2.2.1 69 k_2 := congrFun (hc31.2.1 69 rfl) _
                refine g_iald (f := m28.2.1 69) rfl (kl_69 _) (by decide) (by omega) (by omega) ?_
                have h73 : (-2147483648) ≤ m28.2.1 68 (m28.2.1 69 k_2) ∧ m28.2.1 68 (m28.2.1 69 k_2) ≤ 2147483647 := hm30.2 68 (m28.2.1 69 k_2) (by omega) (show m28.2.1 69 k_2 < (64512 : Int) by omega)
                have h74 : m28.2.1 68 (m28.2.1 69 k_2) = mL2.2.1 68 (m28.2.1 69 k_2) := congrFun (hc31.2.1 68 rfl) _
                refine g_iald (f := m28.2.1 68) rfl (kl_68 _) (by decide) (by omega) (by omega) ?_
                refine g_iret rfl rfl ?_
                have e68 : m28.2.1 68 = mL2.2.1 68 := hc31.2.1 68 rfl
                have e69 : m28.2.1 69 = mL2.2.1 69 := hc31.2.1 69 rfl
                have h400 := bB_400 w28.1 w28.2 h_k4 (kD_ok hm h_kD) hx iB hkN.2 iE (by rw [← hu]; exact (p44.resolve_right (by omega)).2)
                rw [← e68, ← e69] at h400
                exact ⟨_, _, rfl, hm30, hf34, Or.inr h400, fun j hj => (p33 j (by omega)).trans (iR j hj), t39, t40⟩
        exact L48_2 _ 0 (kF (kA (kA mL1 68 (up (mL1.2.1 68) (num (mL1.1 28) (kr5 (mL1.2.1 62))) 0)) 69 (up (mL1.2.1 69) 0 (num (mL1.1 28) (kr5 (mL1.2.1 62))))) 37 1) hm17 hf18 (by omega) hB0 (fun p a b => by omega) hR0 i4 iD rfl
      · intro k75
        refine g_aload_n (n := 0) rfl rfl ?_
        refine g_getf (v := vR 68) rfl (kl_61 _) rfl ?_
        refine g_iload_n (n := 2) rfl rfl ?_
        refine g_iconst rfl ?_
        refine g_iAst (f := mL1.2.1 68) (m' := (kA mL1 68 (up (mL1.2.1 68) i_1 (-1)))) rfl (kl_68 _) (by decide) (by omega) (by omega) (kA_68 _ _) ?_
        have hm76 : kI (kA mL1 68 (up (mL1.2.1 68) i_1 (-1))) := kI_U hmL1 68 rfl (show ((-2147483648) : Int) ≤ (-1) by omega) (show (-1) ≤ (2147483647 : Int) by omega)
        have hf77 : fr [37] [62, 68, 69] m (kA mL1 68 (up (mL1.2.1 68) i_1 (-1))) := fr_A hfL1 68 _ rfl
        refine g_iinc (n := 2) (lo' := [(0, vR 61), (1, vI v)]) rfl rfl rfl ?_
        refine g_goto rfl ?_
        exact ih2_1 _ (by omega) (i_1 + 1) (kA mL1 68 (up (mL1.2.1 68) i_1 (-1))) hm76 hf77 (by omega) (fun y a b => by show up _ _ _ _ = _; by_cases e : y = i_1; exact (by rw [e, up_same]); exact (by rw [up_ne _ e]; exact iM y a (by omega))) iS i4 iD rfl
  exact L2_1 _ 0 m hm hf0 (by omega) (fun y a b => by omega) rfl h_k4 h_kD rfl
theorem d_goodFrom {V : cg_V} {d q : Nat} (hd : 4 ≤ d) (hq : 100 ≤ q) {m : kM} (hm : kI m) {n : Int} (h_n : 0 ≤ n ∧ n ≤ 64511) (h_k4 : k4 m) (h_kD : kD m) : cg_S V d q mX10_goodFrom [vR 61, vI n] (kl m) (R_I (fun z m' => (kI m') ∧ (fr [] [62] m m') ∧ (-1 ≤ z) ∧ (z ≤ 99) ∧ (∀ j : Int, (j < 24 ∨ 40 ≤ j) → m'.2.1 62 j = m.2.1 62 j))) := by
  have hf0 : fr [] [62] m m := fr_rf m
  refine cg_of (List.mem_of_getElem? (show ae_MT[164]? = some mX10_goodFrom from rfl)) (Nat.le_of_ble_eq_true rfl) ?_
  show cg_G V mX10_goodFrom d q _ 0 [(0, vR 61), (1, vI n)] [] (kl m) 0 0
  have w28 : 0 ≤ m.1 28 ∧ m.1 28 ≤ 63 := hm.1 28
  refine g_aload_n (n := 0) rfl rfl ?_
  refine g_iload_n (n := 1) rfl rfl ?_
  refine g_iconst rfl ?_
  have h1 : 0 ≤ m.1 28 ∧ m.1 28 ≤ 63 := hm.1 28
  refine c_vV (i := 61) (ps := [vI 3, vI n]) (r := []) (as := [vR 61, vI n, vI 3]) (cs' := 0) (sl' := 0) rfl rfl rfl rfl rfl rfl (kl_61 _) (d_layStanding (d := d - 1) (q := q - (6 + 19)) (by omega) (by omega) hm (n := n) (show 0 ≤ n ∧ n ≤ 64511 by omega)) (by omega) (show 6 + 19 ≤ q by omega) (Nat.le_of_ble_eq_true rfl) (Nat.le_of_ble_eq_true rfl) rfl rfl rfl ?_
  rintro m3 ⟨hm5, hc6, p7, p8⟩
  have hf9 : fr [] [62] m m3 := fr_tr hf0 (fr_le hc6 rfl rfl)
  have h10 : m3.1 28 = m.1 28 := hc6.1 28 rfl
  have h11 : 0 ≤ m3.1 28 ∧ m3.1 28 ≤ 63 := hm5.1 28
  have t12 : k4 m3 := k4_fr hc6 rfl rfl h_k4
  have t13 : kD m3 := kD_fr hc6 rfl rfl h_kD
  refine g_iconst rfl ?_
  refine g_istore_n (n := 2) (lo' := [(0, vR 61), (1, vI n)]) rfl rfl ?_
  have hu0 : kr3 (m3.2.1 62) = unn (m.1 28) n := p7
  have L8_1 : ∀ (n8_1 : Nat) (c_1 : Int) (mL1 : kM), (kI mL1) → (fr [] [62] m mL1) → (0 ≤ c_1 ∧ c_1 ≤ 100) → (∀ j : Int, (j < 24 ∨ 40 ≤ j) → mL1.2.1 62 j = m.2.1 62 j) → (kr3 (mL1.2.1 62) = unn (m.1 28) n) → (k4 mL1) → (kD mL1) → ((100 - c_1).toNat) = n8_1 → cg_G V mX10_goodFrom d q (R_I (fun z m' => (kI m') ∧ (fr [] [62] m m') ∧ (-1 ≤ z) ∧ (z ≤ 99) ∧ (∀ j : Int, (j < 24 ∨ 40 ≤ j) → m'.2.1 62 j = m.2.1 62 j))) 8 [(2, vI c_1), (0, vR 61), (1, vI n)] [] (kl mL1) 0 0 := by
    intro n8_1
    induction n8_1 using Nat.strongRecOn with
    | _ n8_1 ih8_1 =>
      intro c_1 mL1 hmL1 hfL1 i14 iR iU i4 iD q15
      refine g_iload_n (n := 2) rfl rfl ?_
      refine g_bipush (by decide) rfl ?_
      refine g_icmp_ge (by omega) (by omega) (by decide) (by decide) rfl ?_ ?_
      · intro k16
        refine g_iconst rfl ?_
        refine g_iret rfl rfl ?_
        exact ⟨_, _, rfl, hmL1, hfL1, by omega, by omega, iR⟩
      · intro k17
        refine g_aload_n (n := 0) rfl rfl ?_
        refine g_iload_n (n := 2) rfl rfl ?_
        have h18 : 0 ≤ mL1.1 26 ∧ mL1.1 26 ≤ 10 := hmL1.1 26
        have h19 : mL1.1 26 = m.1 26 := hfL1.1 26 rfl
        have h20 : 0 ≤ mL1.1 27 ∧ mL1.1 27 ≤ 5 := hmL1.1 27
        have h21 : mL1.1 27 = m.1 27 := hfL1.1 27 rfl
        refine c_vI (i := 61) (ps := [vI c_1]) (r := []) (as := [vR 61, vI c_1]) (cs' := 0) (sl' := 0) rfl rfl rfl rfl rfl rfl (kl_61 _) (d_tries (d := d - 1) (q := q - (2 + 19)) (by omega) (by omega) hmL1 (c := c_1) (show 0 ≤ c_1 ∧ c_1 ≤ 99 by omega) (by rw [iU]; exact (kv_unn w28.1 w28.2 h_n.1 h_n.2).1)) (by omega) (show 2 + 19 ≤ q by omega) (Nat.le_of_ble_eq_true rfl) (Nat.le_of_ble_eq_true rfl) rfl rfl rfl ?_
        rintro z22 m23 ⟨hm25, hc26, p27, p28⟩
        have hf29 : fr [] [62] m m23 := fr_tr hfL1 (fr_le hc26 rfl rfl)
        have h30 : m23.1 26 = mL1.1 26 := hc26.1 26 rfl
        have h31 : 0 ≤ m23.1 26 ∧ m23.1 26 ≤ 10 := hm25.1 26
        have h32 : m23.1 27 = mL1.1 27 := hc26.1 27 rfl
        have h33 : 0 ≤ m23.1 27 ∧ m23.1 27 ≤ 5 := hm25.1 27
        have t34 : k4 m23 := k4_fr hc26 rfl rfl i4
        have t35 : kD m23 := kD_fr hc26 rfl rfl iD
        have hRx : ∀ j : Int, (j < 24 ∨ 40 ≤ j) → m23.2.1 62 j = m.2.1 62 j := fun j hj => (p28 j (by omega)).trans (iR j hj)
        have hUx : kr3 (m23.2.1 62) = unn (m.1 28) n := (kr3_eq (fun j a b => p28 j (by omega))).trans iU
        refine g_if_eq (by omega) (by omega) rfl ?_ ?_
        · intro k36
          refine g_iinc (n := 2) (lo' := [(0, vR 61), (1, vI n)]) rfl rfl rfl ?_
          refine g_goto rfl ?_
          exact ih8_1 _ (by omega) (c_1 + 1) m23 hm25 hf29 (by omega) hRx hUx t34 t35 rfl
        · intro k37
          have hD9 : dOk (mL1.2.1 66) (mL1.1 26) := kD_ok hmL1 iD
          have hw9 : kw (kr4 (m23.2.1 62)) := kw_stp hD9 (by omega) (by omega) (p27.resolve_right (by omega)).2 (by rw [iU]; exact (kv_unn w28.1 w28.2 h_n.1 h_n.2).1)
          refine g_aload_n (n := 0) rfl rfl ?_
          refine g_iconst rfl ?_
          have h38 : 0 ≤ m23.1 28 ∧ m23.1 28 ≤ 63 := hm25.1 28
          have h39 : m23.1 28 = mL1.1 28 := hc26.1 28 rfl
          refine c_vI (i := 61) (ps := [vI 4]) (r := []) (as := [vR 61, vI 4]) (cs' := 0) (sl' := 0) rfl rfl rfl rfl rfl rfl (kl_61 _) (d_numberOf_4 (d := d - 1) (q := q - (6 + 19)) (by omega) (by omega) hm25  t34 hw9) (by omega) (show 6 + 19 ≤ q by omega) (Nat.le_of_ble_eq_true rfl) (Nat.le_of_ble_eq_true rfl) rfl rfl rfl ?_
          rintro z40 m41 ⟨rfl, p43, p44, p45⟩
          have h46 : z40 = (num (m23.1 28) (kr4 (m23.2.1 62))) := p43
          subst h46
          refine g_istore_n (n := 3) (lo' := [(2, vI c_1), (0, vR 61), (1, vI n)]) rfl rfl ?_
          refine g_aload_n (n := 0) rfl rfl ?_
          refine g_getf (v := vR 68) rfl (kl_61 _) rfl ?_
          refine g_iload_n (n := 3) rfl rfl ?_
          have h47 : (-2147483648) ≤ m23.2.1 68 (num (m23.1 28) (kr4 (m23.2.1 62))) ∧ m23.2.1 68 (num (m23.1 28) (kr4 (m23.2.1 62))) ≤ 2147483647 := hm25.2 68 (num (m23.1 28) (kr4 (m23.2.1 62))) (by omega) (show (num (m23.1 28) (kr4 (m23.2.1 62))) < (64512 : Int) by omega)
          have h48 : m23.2.1 68 (num (m23.1 28) (kr4 (m23.2.1 62))) = mL1.2.1 68 (num (m23.1 28) (kr4 (m23.2.1 62))) := congrFun (hc26.2.1 68 rfl) _
          refine g_iald (f := m23.2.1 68) rfl (kl_68 _) (by decide) (by omega) (by omega) ?_
          refine g_aload_n (n := 0) rfl rfl ?_
          refine g_getf (v := vR 68) rfl (kl_61 _) rfl ?_
          refine g_iload_n (n := 1) rfl rfl ?_
          have h49 : (-2147483648) ≤ m23.2.1 68 n ∧ m23.2.1 68 n ≤ 2147483647 := hm25.2 68 n (by omega) (show n < (64512 : Int) by omega)
          have h50 : m23.2.1 68 n = mL1.2.1 68 n := congrFun (hc26.2.1 68 rfl) _
          refine g_iald (f := m23.2.1 68) rfl (kl_68 _) (by decide) (by omega) (by omega) ?_
          refine g_iconst rfl ?_
          refine g_iadd rfl ?_
          refine g_nrm ?_
          intro z51 h52 h53 h54 h55
          refine g_icmp_ne (by omega) (by omega) (by omega) (by omega) rfl ?_ ?_
          · intro k56
            refine g_iinc (n := 2) (lo' := [(3, vI (num (m23.1 28) (kr4 (m23.2.1 62)))), (0, vR 61), (1, vI n)]) rfl rfl rfl ?_
            refine g_goto rfl ?_
            refine g_pick (lo' := [(2, vI (c_1 + 1)), (0, vR 61), (1, vI n)]) [0, 2, 3] rfl ?_
            exact ih8_1 _ (by omega) (c_1 + 1) m23 hm25 hf29 (by omega) hRx hUx t34 t35 rfl
          · intro k57
            refine g_aload_n (n := 0) rfl rfl ?_
            refine g_getf (v := vR 70) rfl (kl_61 _) rfl ?_
            refine g_iload_n (n := 3) rfl rfl ?_
            have h58 : 0 ≤ m23.2.1 70 (num (m23.1 28) (kr4 (m23.2.1 62))) ∧ m23.2.1 70 (num (m23.1 28) (kr4 (m23.2.1 62))) ≤ 1 := hm25.2 70 (num (m23.1 28) (kr4 (m23.2.1 62))) (by omega) (show (num (m23.1 28) (kr4 (m23.2.1 62))) < (64512 : Int) by omega)
            have h59 : m23.2.1 70 (num (m23.1 28) (kr4 (m23.2.1 62))) = mL1.2.1 70 (num (m23.1 28) (kr4 (m23.2.1 62))) := congrFun (hc26.2.1 70 rfl) _
            refine g_zald (f := m23.2.1 70) rfl (kl_70 _) (by decide) (by omega) (by omega) ?_
            refine g_if_eq (by omega) (by omega) rfl ?_ ?_
            · intro k60
              refine g_iinc (n := 2) (lo' := [(3, vI (num (m23.1 28) (kr4 (m23.2.1 62)))), (0, vR 61), (1, vI n)]) rfl rfl rfl ?_
              refine g_goto rfl ?_
              refine g_pick (lo' := [(2, vI (c_1 + 1)), (0, vR 61), (1, vI n)]) [0, 2, 3] rfl ?_
              exact ih8_1 _ (by omega) (c_1 + 1) m23 hm25 hf29 (by omega) hRx hUx t34 t35 rfl
            · intro k61
              refine g_iload_n (n := 2) rfl rfl ?_
              refine g_iret rfl rfl ?_
              exact ⟨_, _, rfl, hm25, hf29, by omega, by omega, hRx⟩
  exact L8_1 _ 0 m3 hm5 hf9 (by omega) (fun j hj => p8 j (by omega)) hu0 t12 t13 rfl
