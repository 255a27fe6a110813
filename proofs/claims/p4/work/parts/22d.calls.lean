/-! ===== contracts: the model, its calls ===== -/
theorem kK_act {m m' : kM} (h28 : m'.1 28 = m.1 28) (h63 : m'.2.1 63 = m.2.1 63) (h62 : ∀ j : Int, 8 ≤ j → j < 24 → m'.2.1 62 j = m.2.1 62 j) (hv : kv (m.1 28) (kr0 (m'.2.1 62))) (h : kK m) : kK m' := by
  unfold kK
  rw [h28, h63, kr1_eq (fun j a b => h62 j (by omega) (by omega)), kr2_eq (fun j a b => h62 j (by omega) (by omega))]
  exact ⟨hv, h.2⟩
theorem ku {t : Int} (h0 : 0 ≤ t) (h1 : t ≤ 63) : HO t (HC t t 6) 6 = t := by
  obtain ⟨k, rfl⟩ := b_fin (n := 64) h0 (by omega)
  exact ku_all k
theorem kv_begin {t a b K s : Int} (ht : 0 ≤ t ∧ t ≤ 63) (ha : 0 ≤ a ∧ a ≤ 5) (hb9 : 0 ≤ b ∧ b ≤ 5) (hK : 0 ≤ K ∧ K ≤ 5) (hs : 0 ≤ s ∧ s ≤ 3) : kv t (a, b, 0, 0, K, t, s) := by
  refine ⟨?_, ⟨_, Or.inl ⟨⟨Or.inl rfl, Or.inl rfl⟩, rfl⟩⟩, ku ht.1 ht.2⟩
  unfold kw
  dsimp only
  omega
theorem d_layActs {V : cg_V} {d q : Nat} (hd : 5 ≤ d) (hq : 123 ≤ q) {m : kM} (hm : kI m) {a v : Int} (h_a : 0 ≤ a ∧ a ≤ 400) (h_v : 0 ≤ v ∧ v ≤ 1) (h_k4 : k4 m) (h_kD : kD m) (hw : kw (kr5 (m.2.1 62))) : cg_S V d q mX10_layActs [vR 61, vI a, vI v] (kl m) (R_V (fun m' => (kI m') ∧ (fr [] [62, 70, 71] m m') ∧ (∀ j : Int, (j < 24 ∨ 40 ≤ j) → m'.2.1 62 j = m.2.1 62 j))) := by
  have hf0 : fr [] [62, 70, 71] m m := fr_rf m
  refine cg_of (List.mem_of_getElem? (show ae_MT[165]? = some mX10_layActs from rfl)) (Nat.le_of_ble_eq_true rfl) ?_
  show cg_G V mX10_layActs d q _ 0 [(0, vR 61), (1, vI a), (2, vI v)] [] (kl m) 0 0
  refine g_aload_n (n := 0) rfl rfl ?_
  have h1 : 0 ≤ m.1 37 ∧ m.1 37 ≤ 64512 := hm.1 37
  refine g_getf (v := vI (m.1 37)) rfl (kl_61 _) rfl ?_
  refine g_iconst rfl ?_
  refine g_isub rfl ?_
  refine g_istore_n (n := 3) (lo' := [(0, vR 61), (1, vI a), (2, vI v)]) rfl rfl ?_
  have L7_1 : ∀ (n7_1 : Nat) (k_1 : Int) (mL1 : kM), (kI mL1) → (fr [] [62, 70, 71] m mL1) → ((-1) ≤ k_1 ∧ k_1 ≤ 64511) → (∀ j : Int, (j < 24 ∨ 40 ≤ j) → mL1.2.1 62 j = m.2.1 62 j) → (k4 mL1) → (kD mL1) → ((k_1 + 1).toNat) = n7_1 → cg_G V mX10_layActs d q (R_V (fun m' => (kI m') ∧ (fr [] [62, 70, 71] m m') ∧ (∀ j : Int, (j < 24 ∨ 40 ≤ j) → m'.2.1 62 j = m.2.1 62 j))) 7 [(3, vI k_1), (0, vR 61), (1, vI a), (2, vI v)] [] (kl mL1) 0 0 := by
    intro n7_1
    induction n7_1 using Nat.strongRecOn with
    | _ n7_1 ih7_1 =>
      intro k_1 mL1 hmL1 hfL1 i2 iR i4 iD q3
      refine g_iload_n (n := 3) rfl rfl ?_
      refine g_if_lt (by omega) (by omega) rfl ?_ ?_
      · intro kk4
        refine g_aload_n (n := 0) rfl rfl ?_
        refine g_iconst rfl ?_
        have h5 : 0 ≤ mL1.1 28 ∧ mL1.1 28 ≤ 63 := hmL1.1 28
        have h6 : mL1.1 28 = m.1 28 := hfL1.1 28 rfl
        refine c_vI (i := 61) (ps := [vI 5]) (r := []) (as := [vR 61, vI 5]) (cs' := 0) (sl' := 0) rfl rfl rfl rfl rfl rfl (kl_61 _) (d_numberOf_5 (d := d - 1) (q := q - (6 + 19)) (by omega) (by omega) hmL1  i4 (by rw [kr5_eq (fun j a b => iR j (by omega))]; exact hw)) (by omega) (show 6 + 19 ≤ q by omega) (Nat.le_of_ble_eq_true rfl) (Nat.le_of_ble_eq_true rfl) rfl rfl rfl ?_
        rintro z7 m8 ⟨rfl, p10, p11, p12⟩
        have h13 : z7 = (num (mL1.1 28) (kr5 (mL1.2.1 62))) := p10
        subst h13
        refine g_istore_n (n := 3) (lo' := [(0, vR 61), (1, vI a), (2, vI v)]) rfl rfl ?_
        refine g_iconst rfl ?_
        refine g_istore (n := 4) (lo' := [(3, vI (num (mL1.1 28) (kr5 (mL1.2.1 62)))), (0, vR 61), (1, vI a), (2, vI v)]) rfl rfl ?_
        have L93_2 : ∀ (n93_2 : Nat) (n_2 : Int) (i_2 : Int) (mL2 : kM), (kI mL2) → (fr [] [62, 70, 71] m mL2) → (0 ≤ n_2 ∧ n_2 ≤ 64511) → (0 ≤ i_2 ∧ i_2 ≤ 400) → (∀ j : Int, (j < 24 ∨ 40 ≤ j) → mL2.2.1 62 j = m.2.1 62 j) → (k4 mL2) → (kD mL2) → ((400 - i_2).toNat) = n93_2 → cg_G V mX10_layActs d q (R_V (fun m' => (kI m') ∧ (fr [] [62, 70, 71] m m') ∧ (∀ j : Int, (j < 24 ∨ 40 ≤ j) → m'.2.1 62 j = m.2.1 62 j))) 93 [(4, vI i_2), (3, vI n_2), (0, vR 61), (1, vI a), (2, vI v)] [] (kl mL2) 0 0 := by
          intro n93_2
          induction n93_2 using Nat.strongRecOn with
          | _ n93_2 ih93_2 =>
            intro n_2 i_2 mL2 hmL2 hfL2 i14 i15 jR j4 jD q16
            refine g_iload (n := 4) rfl rfl ?_
            refine g_iload_n (n := 1) rfl rfl ?_
            refine g_icmp_ge (by omega) (by omega) (by omega) (by omega) rfl ?_ ?_
            · intro kk17
              refine g_vret rfl rfl ?_
              exact ⟨_, rfl, hmL2, hfL2, jR⟩
            · intro kk18
              refine g_aload_n (n := 0) rfl rfl ?_
              refine g_getf (v := vR 71) rfl (kl_61 _) rfl ?_
              refine g_iload (n := 4) rfl rfl ?_
              refine g_aload_n (n := 0) rfl rfl ?_
              refine g_iload_n (n := 3) rfl rfl ?_
              refine c_vI (i := 61) (ps := [vI n_2]) (r := [vI i_2, vR 71]) (as := [vR 61, vI n_2]) (cs' := 0) (sl' := 0) rfl rfl rfl rfl rfl rfl (kl_61 _) (d_goodFrom (d := d - 1) (q := q - (4 + 19)) (by omega) (by omega) hmL2 (n := n_2) (show 0 ≤ n_2 ∧ n_2 ≤ 64511 by omega) j4 jD) (by omega) (show 4 + 19 ≤ q by omega) (Nat.le_of_ble_eq_true rfl) (Nat.le_of_ble_eq_true rfl) rfl rfl rfl ?_
              rintro z19 m20 ⟨hm22, hc23, p24, p25, p26⟩
              have hf27 : fr [] [62, 70, 71] m m20 := fr_tr hfL2 (fr_le hc23 rfl rfl)
              have t28 : k4 m20 := k4_fr hc23 rfl rfl j4
              have t29 : kD m20 := kD_fr hc23 rfl rfl jD
              refine g_iAst (f := m20.2.1 71) (m' := (kA m20 71 (up (m20.2.1 71) i_2 z19))) rfl (kl_71 _) (by decide) (by omega) (by omega) (kA_71 _ _) ?_
              have hm30 : kI (kA m20 71 (up (m20.2.1 71) i_2 z19)) := kI_U hm22 71 rfl (show ((-1) : Int) ≤ z19 by omega) (show z19 ≤ (99 : Int) by omega)
              have hf31 : fr [] [62, 70, 71] m (kA m20 71 (up (m20.2.1 71) i_2 z19)) := fr_A hf27 71 _ rfl
              refine g_aload_n (n := 0) rfl rfl ?_
              refine g_iload_n (n := 3) rfl rfl ?_
              refine g_iconst rfl ?_
              have h32 : 0 ≤ m20.1 28 ∧ m20.1 28 ≤ 63 := hm22.1 28
              have h33 : m20.1 28 = mL2.1 28 := hc23.1 28 rfl
              have h34 : (kA m20 71 (up (m20.2.1 71) i_2 z19)).1 28 = m20.1 28 := rfl
              refine c_vV (i := 61) (ps := [vI 3, vI n_2]) (r := []) (as := [vR 61, vI n_2, vI 3]) (cs' := 0) (sl' := 0) rfl rfl rfl rfl rfl rfl (kl_61 _) (d_layStanding (d := d - 1) (q := q - (6 + 19)) (by omega) (by omega) hm30 (n := n_2) (show 0 ≤ n_2 ∧ n_2 ≤ 64511 by omega)) (by omega) (show 6 + 19 ≤ q by omega) (Nat.le_of_ble_eq_true rfl) (Nat.le_of_ble_eq_true rfl) rfl rfl rfl ?_
              rintro m36 ⟨hm38, hc39, p40, p41⟩
              have hf42 : fr [] [62, 70, 71] m m36 := fr_tr hf31 (fr_le hc39 rfl rfl)
              have h43 : m36.1 28 = m20.1 28 := hc39.1 28 rfl
              have h44 : 0 ≤ m36.1 28 ∧ m36.1 28 ≤ 63 := hm38.1 28
              have t45 : k4 m36 := k4_fr hc39 rfl rfl t28
              have t46 : kD m36 := kD_fr hc39 rfl rfl t29
              refine g_aload_n (n := 0) rfl rfl ?_
              refine g_iconst rfl ?_
              refine g_iconst rfl ?_
              refine c_vV (i := 61) (ps := [vI 4, vI 3]) (r := []) (as := [vR 61, vI 3, vI 4]) (cs' := 0) (sl' := 0) rfl rfl rfl rfl rfl rfl (kl_61 _) (d_copy_3_4 (d := d - 1) (q := q - (4 + 19)) (by omega) (by omega) hm38  ) (by omega) (show 4 + 19 ≤ q by omega) (Nat.le_of_ble_eq_true rfl) (Nat.le_of_ble_eq_true rfl) rfl rfl rfl ?_
              rintro m48 ⟨hm50, hc51, p52, p53⟩
              have hf54 : fr [] [62, 70, 71] m m48 := fr_tr hf42 (fr_le hc51 rfl rfl)
              have h55 : m48.1 28 = m36.1 28 := hc51.1 28 rfl
              have h56 : 0 ≤ m48.1 28 ∧ m48.1 28 ≤ 63 := hm50.1 28
              have t57 : k4 m48 := k4_fr hc51 rfl rfl t45
              have t58 : kD m48 := kD_fr hc51 rfl rfl t46
              have hw4 : kw (kr4 (m48.2.1 62)) := by rw [p52, p40]; exact (kv_unn (hm30.1 28).1 (hm30.1 28).2 (by omega) (by omega)).1
              refine g_aload_n (n := 0) rfl rfl ?_
              refine g_iconst rfl ?_
              refine g_aload_n (n := 0) rfl rfl ?_
              refine g_getf (v := vR 71) rfl (kl_61 _) rfl ?_
              refine g_iload (n := 4) rfl rfl ?_
              have h59 : (-1) ≤ m48.2.1 71 i_2 ∧ m48.2.1 71 i_2 ≤ 99 := hm50.2 71 i_2 (by omega) (show i_2 < (400 : Int) by omega)
              have h60 : m48.2.1 71 i_2 = m36.2.1 71 i_2 := congrFun (hc51.2.1 71 rfl) _
              refine g_iald (f := m48.2.1 71) rfl (kl_71 _) (by decide) (by omega) (by omega) ?_
              have h61 : 0 ≤ m48.1 26 ∧ m48.1 26 ≤ 10 := hm50.1 26
              have h62 : m48.1 26 = m36.1 26 := hc51.1 26 rfl
              have h63 : 0 ≤ m48.1 27 ∧ m48.1 27 ≤ 5 := hm50.1 27
              have h64 : m48.1 27 = m36.1 27 := hc51.1 27 rfl
              refine c_vI (i := 61) (ps := [vI (m48.2.1 71 i_2), vI 4]) (r := []) (as := [vR 61, vI 4, vI (m48.2.1 71 i_2)]) (cs' := 0) (sl' := 0) rfl rfl rfl rfl rfl rfl (kl_61 _) (d_does_4 (d := d - 1) (q := q - (7 + 19)) (by omega) (by omega) hm50 (c := m48.2.1 71 i_2) (show (-1) ≤ m48.2.1 71 i_2 ∧ m48.2.1 71 i_2 ≤ 99 by omega) hw4) (by omega) (show 7 + 19 ≤ q by omega) (Nat.le_of_ble_eq_true rfl) (Nat.le_of_ble_eq_true rfl) rfl rfl rfl ?_
              rintro z65 m66 ⟨hm68, hc69, p70, p71⟩
              have hf72 : fr [] [62, 70, 71] m m66 := fr_tr hf54 (fr_le hc69 rfl rfl)
              have h73 : m66.1 26 = m48.1 26 := hc69.1 26 rfl
              have h74 : 0 ≤ m66.1 26 ∧ m66.1 26 ≤ 10 := hm68.1 26
              have h75 : m66.1 27 = m48.1 27 := hc69.1 27 rfl
              have h76 : 0 ≤ m66.1 27 ∧ m66.1 27 ≤ 5 := hm68.1 27
              have h77 : m66.1 28 = m48.1 28 := hc69.1 28 rfl
              have h78 : 0 ≤ m66.1 28 ∧ m66.1 28 ≤ 63 := hm68.1 28
              have t79 : k4 m66 := k4_fr hc69 rfl rfl t57
              have t80 : kD m66 := kD_fr hc69 rfl rfl t58
              refine g_if_eq (by omega) (by omega) rfl ?_ ?_
              · intro kk81
                have hRy : ∀ j : Int, (j < 24 ∨ 40 ≤ j) → m66.2.1 62 j = m.2.1 62 j := fun j hj => (p71 j (by omega)).trans ((p53 j (by omega)).trans ((p41 j (by omega)).trans ((p26 j hj).trans (jR j hj))))
                refine g_iinc (n := 4) (lo' := [(3, vI n_2), (0, vR 61), (1, vI a), (2, vI v)]) rfl rfl rfl ?_
                refine g_goto rfl ?_
                exact ih93_2 _ (by omega) n_2 (i_2 + 1) m66 hm68 hf72 (by omega) (by omega) hRy t79 t80 rfl
              · intro kk82
                have hw6 : kw (kr4 (m66.2.1 62)) := kw_stp (kD_ok hm50 t58) (by omega) (by omega) (p70.resolve_right (by omega)).2 hw4
                refine g_aload_n (n := 0) rfl rfl ?_
                refine g_iconst rfl ?_
                refine c_vI (i := 61) (ps := [vI 4]) (r := []) (as := [vR 61, vI 4]) (cs' := 0) (sl' := 0) rfl rfl rfl rfl rfl rfl (kl_61 _) (d_numberOf_4 (d := d - 1) (q := q - (6 + 19)) (by omega) (by omega) hm68  t79 hw6) (by omega) (show 6 + 19 ≤ q by omega) (Nat.le_of_ble_eq_true rfl) (Nat.le_of_ble_eq_true rfl) rfl rfl rfl ?_
                rintro z83 m84 ⟨rfl, p86, p87, p88⟩
                have h89 : z83 = (num (m66.1 28) (kr4 (m66.2.1 62))) := p86
                subst h89
                refine g_istore_n (n := 3) (lo' := [(4, vI i_2), (0, vR 61), (1, vI a), (2, vI v)]) rfl rfl ?_
                have hRy : ∀ j : Int, (j < 24 ∨ 40 ≤ j) → m66.2.1 62 j = m.2.1 62 j := fun j hj => (p71 j (by omega)).trans ((p53 j (by omega)).trans ((p41 j (by omega)).trans ((p26 j hj).trans (jR j hj))))
                refine g_iinc (n := 4) (lo' := [(3, vI (num (m66.1 28) (kr4 (m66.2.1 62)))), (0, vR 61), (1, vI a), (2, vI v)]) rfl rfl rfl ?_
                refine g_goto rfl ?_
                exact ih93_2 _ (by omega) (num (m66.1 28) (kr4 (m66.2.1 62))) (i_2 + 1) m66 hm68 hf72 (by omega) (by omega) hRy t79 t80 rfl
        exact L93_2 _ (num (mL1.1 28) (kr5 (mL1.2.1 62))) 0 mL1 hmL1 hfL1 (by omega) (by omega) iR i4 iD rfl
      · intro kk90
        refine g_aload_n (n := 0) rfl rfl ?_
        refine g_getf (v := vR 69) rfl (kl_61 _) rfl ?_
        refine g_iload_n (n := 3) rfl rfl ?_
        have h91 : 0 ≤ mL1.2.1 69 k_1 ∧ mL1.2.1 69 k_1 ≤ 64511 := hmL1.2 69 k_1 (by omega) (show k_1 < (64512 : Int) by omega)
        have h92 : mL1.2.1 69 k_1 = m.2.1 69 k_1 := congrFun (hfL1.2.1 69 rfl) _
        refine g_iald (f := mL1.2.1 69) rfl (kl_69 _) (by decide) (by omega) (by omega) ?_
        refine g_istore (n := 4) (lo' := [(3, vI k_1), (0, vR 61), (1, vI a), (2, vI v)]) rfl rfl ?_
        refine g_aload_n (n := 0) rfl rfl ?_
        refine g_iload (n := 4) rfl rfl ?_
        refine g_iconst rfl ?_
        have h93 : 0 ≤ mL1.1 28 ∧ mL1.1 28 ≤ 63 := hmL1.1 28
        have h94 : mL1.1 28 = m.1 28 := hfL1.1 28 rfl
        refine c_vV (i := 61) (ps := [vI 3, vI (mL1.2.1 69 k_1)]) (r := []) (as := [vR 61, vI (mL1.2.1 69 k_1), vI 3]) (cs' := 0) (sl' := 0) rfl rfl rfl rfl rfl rfl (kl_61 _) (d_layStanding (d := d - 1) (q := q - (6 + 19)) (by omega) (by omega) hmL1 (n := mL1.2.1 69 k_1) (show 0 ≤ mL1.2.1 69 k_1 ∧ mL1.2.1 69 k_1 ≤ 64511 by omega)) (by omega) (show 6 + 19 ≤ q by omega) (Nat.le_of_ble_eq_true rfl) (Nat.le_of_ble_eq_true rfl) rfl rfl rfl ?_
        rintro m96 ⟨hm98, hc99, p100, p101⟩
        have hf102 : fr [] [62, 70, 71] m m96 := fr_tr hfL1 (fr_le hc99 rfl rfl)
        have h103 : m96.1 28 = mL1.1 28 := hc99.1 28 rfl
        have h104 : 0 ≤ m96.1 28 ∧ m96.1 28 ≤ 63 := hm98.1 28
        have t105 : k4 m96 := k4_fr hc99 rfl rfl i4
        have t106 : kD m96 := kD_fr hc99 rfl rfl iD
        refine g_aload_n (n := 0) rfl rfl ?_
        refine g_getf (v := vR 70) rfl (kl_61 _) rfl ?_
        refine g_iload (n := 4) rfl rfl ?_
        refine g_aload_n (n := 0) rfl rfl ?_
        refine g_getf (v := vR 68) rfl (kl_61 _) rfl ?_
        refine g_iload (n := 4) rfl rfl ?_
        have h107 : (-2147483648) ≤ m96.2.1 68 (mL1.2.1 69 k_1) ∧ m96.2.1 68 (mL1.2.1 69 k_1) ≤ 2147483647 := hm98.2 68 (mL1.2.1 69 k_1) (by omega) (show mL1.2.1 69 k_1 < (64512 : Int) by omega)
        have h108 : m96.2.1 68 (mL1.2.1 69 k_1) = mL1.2.1 68 (mL1.2.1 69 k_1) := congrFun (hc99.2.1 68 rfl) _
        refine g_iald (f := m96.2.1 68) rfl (kl_68 _) (by decide) (by omega) (by omega) ?_
        refine g_iload_n (n := 1) rfl rfl ?_
        refine g_icmp_ne (by omega) (by omega) (by omega) (by omega) rfl ?_ ?_
        · intro kk109
          refine g_aload_n (n := 0) rfl rfl ?_
          refine g_getf (v := vR 68) rfl (kl_61 _) rfl ?_
          refine g_iload (n := 4) rfl rfl ?_
          have h110 : (-2147483648) ≤ m96.2.1 68 (mL1.2.1 69 k_1) ∧ m96.2.1 68 (mL1.2.1 69 k_1) ≤ 2147483647 := hm98.2 68 (mL1.2.1 69 k_1) (by omega) (show mL1.2.1 69 k_1 < (64512 : Int) by omega)
          have h111 : m96.2.1 68 (mL1.2.1 69 k_1) = mL1.2.1 68 (mL1.2.1 69 k_1) := congrFun (hc99.2.1 68 rfl) _
          refine g_iald (f := m96.2.1 68) rfl (kl_68 _) (by decide) (by omega) (by omega) ?_
          refine g_iload_n (n := 1) rfl rfl ?_
          refine g_icmp_ge (by omega) (by omega) (by omega) (by omega) rfl ?_ ?_
          · intro kk112
            refine g_iconst rfl ?_
            have hR2 : ∀ j : Int, (j < 24 ∨ 40 ≤ j) → m96.2.1 62 j = m.2.1 62 j := fun j hj => (p101 j (by omega)).trans (iR j hj)
            have hRx := hR2
            refine g_zAst (f := m96.2.1 70) (m' := (kA m96 70 (up (m96.2.1 70) (mL1.2.1 69 k_1) 0))) rfl (kl_70 _) (by decide) (by omega) (by omega) (by omega) (kA_70 _ _) ?_
            have hm113 : kI (kA m96 70 (up (m96.2.1 70) (mL1.2.1 69 k_1) 0)) := kI_U hm98 70 rfl (show (0 : Int) ≤ 0 by omega) (show 0 ≤ (1 : Int) by omega)
            have hf114 : fr [] [62, 70, 71] m (kA m96 70 (up (m96.2.1 70) (mL1.2.1 69 k_1) 0)) := fr_A hf102 70 _ rfl
            refine g_iinc (n := 3) (lo' := [(4, vI (mL1.2.1 69 k_1)), (0, vR 61), (1, vI a), (2, vI v)]) rfl rfl rfl ?_
            refine g_goto rfl ?_
            refine g_pick (lo' := [(3, vI (k_1 + (-1))), (0, vR 61), (1, vI a), (2, vI v)]) [0, 2, 3, 4] rfl ?_
            exact ih7_1 _ (by omega) (k_1 + (-1)) (kA m96 70 (up (m96.2.1 70) (mL1.2.1 69 k_1) 0)) hm113 hf114 (by omega) hRx t105 t106 rfl
          · intro kk115
            refine g_aload_n (n := 0) rfl rfl ?_
            refine g_iload (n := 4) rfl rfl ?_
            refine c_vI (i := 61) (ps := [vI (mL1.2.1 69 k_1)]) (r := [vI (mL1.2.1 69 k_1), vR 70]) (as := [vR 61, vI (mL1.2.1 69 k_1)]) (cs' := 0) (sl' := 0) rfl rfl rfl rfl rfl rfl (kl_61 _) (d_goodFrom (d := d - 1) (q := q - (4 + 19)) (by omega) (by omega) hm98 (n := mL1.2.1 69 k_1) (show 0 ≤ mL1.2.1 69 k_1 ∧ mL1.2.1 69 k_1 ≤ 64511 by omega) t105 t106) (by omega) (show 4 + 19 ≤ q by omega) (Nat.le_of_ble_eq_true rfl) (Nat.le_of_ble_eq_true rfl) rfl rfl rfl ?_
            rintro z116 m117 ⟨hm119, hc120, p121, p122, p123⟩
            have hf124 : fr [] [62, 70, 71] m m117 := fr_tr hf102 (fr_le hc120 rfl rfl)
            have h125 : m117.1 28 = m96.1 28 := hc120.1 28 rfl
            have h126 : 0 ≤ m117.1 28 ∧ m117.1 28 ≤ 63 := hm119.1 28
            have t127 : k4 m117 := k4_fr hc120 rfl rfl t105
            have t128 : kD m117 := kD_fr hc120 rfl rfl t106
            refine g_iconst rfl ?_
            refine g_icmp_eq (by omega) (by omega) (by decide) (by decide) rfl ?_ ?_
            · intro kk129
              refine g_iconst rfl ?_
              have hR2 : ∀ j : Int, (j < 24 ∨ 40 ≤ j) → m96.2.1 62 j = m.2.1 62 j := fun j hj => (p101 j (by omega)).trans (iR j hj)
              have hRx : ∀ j : Int, (j < 24 ∨ 40 ≤ j) → m117.2.1 62 j = m.2.1 62 j := fun j hj => (p123 j hj).trans (hR2 j hj)
              refine g_zAst (f := m117.2.1 70) (m' := (kA m117 70 (up (m117.2.1 70) (mL1.2.1 69 k_1) 0))) rfl (kl_70 _) (by decide) (by omega) (by omega) (by omega) (kA_70 _ _) ?_
              have hm130 : kI (kA m117 70 (up (m117.2.1 70) (mL1.2.1 69 k_1) 0)) := kI_U hm119 70 rfl (show (0 : Int) ≤ 0 by omega) (show 0 ≤ (1 : Int) by omega)
              have hf131 : fr [] [62, 70, 71] m (kA m117 70 (up (m117.2.1 70) (mL1.2.1 69 k_1) 0)) := fr_A hf124 70 _ rfl
              refine g_iinc (n := 3) (lo' := [(4, vI (mL1.2.1 69 k_1)), (0, vR 61), (1, vI a), (2, vI v)]) rfl rfl rfl ?_
              refine g_goto rfl ?_
              refine g_pick (lo' := [(3, vI (k_1 + (-1))), (0, vR 61), (1, vI a), (2, vI v)]) [0, 2, 3, 4] rfl ?_
              exact ih7_1 _ (by omega) (k_1 + (-1)) (kA m117 70 (up (m117.2.1 70) (mL1.2.1 69 k_1) 0)) hm130 hf131 (by omega) hRx t127 t128 rfl
            · intro kk132
              refine g_iconst rfl ?_
              refine g_goto rfl ?_
              have hR2 : ∀ j : Int, (j < 24 ∨ 40 ≤ j) → m96.2.1 62 j = m.2.1 62 j := fun j hj => (p101 j (by omega)).trans (iR j hj)
              have hRx : ∀ j : Int, (j < 24 ∨ 40 ≤ j) → m117.2.1 62 j = m.2.1 62 j := fun j hj => (p123 j hj).trans (hR2 j hj)
              refine g_zAst (f := m117.2.1 70) (m' := (kA m117 70 (up (m117.2.1 70) (mL1.2.1 69 k_1) 1))) rfl (kl_70 _) (by decide) (by omega) (by omega) (by omega) (kA_70 _ _) ?_
              have hm133 : kI (kA m117 70 (up (m117.2.1 70) (mL1.2.1 69 k_1) 1)) := kI_U hm119 70 rfl (show (0 : Int) ≤ 1 by omega) (show 1 ≤ (1 : Int) by omega)
              have hf134 : fr [] [62, 70, 71] m (kA m117 70 (up (m117.2.1 70) (mL1.2.1 69 k_1) 1)) := fr_A hf124 70 _ rfl
              refine g_iinc (n := 3) (lo' := [(4, vI (mL1.2.1 69 k_1)), (0, vR 61), (1, vI a), (2, vI v)]) rfl rfl rfl ?_
              refine g_goto rfl ?_
              refine g_pick (lo' := [(3, vI (k_1 + (-1))), (0, vR 61), (1, vI a), (2, vI v)]) [0, 2, 3, 4] rfl ?_
              exact ih7_1 _ (by omega) (k_1 + (-1)) (kA m117 70 (up (m117.2.1 70) (mL1.2.1 69 k_1) 1)) hm133 hf134 (by omega) hRx t127 t128 rfl
        · intro kk135
          refine g_aload_n (n := 0) rfl rfl ?_
          refine g_iload_n (n := 2) rfl rfl ?_
          refine c_vI (i := 61) (ps := [vI v]) (r := [vI (mL1.2.1 69 k_1), vR 70]) (as := [vR 61, vI v]) (cs' := 0) (sl' := 0) rfl rfl rfl rfl rfl rfl (kl_61 _) (d_isEnd (d := d - 1) (q := q - (3 + 19)) (by omega) (by omega) hm98 (v := v) (show 0 ≤ v ∧ v ≤ 1 by omega)) (by omega) (show 3 + 19 ≤ q by omega) (Nat.le_of_ble_eq_true rfl) (Nat.le_of_ble_eq_true rfl) rfl rfl rfl ?_
          rintro z136 m137 ⟨rfl, p139⟩
          refine g_goto rfl ?_
          have hR2 : ∀ j : Int, (j < 24 ∨ 40 ≤ j) → m96.2.1 62 j = m.2.1 62 j := fun j hj => (p101 j (by omega)).trans (iR j hj)
          have hRx := hR2
          refine g_zAst (f := m96.2.1 70) (m' := (kA m96 70 (up (m96.2.1 70) (mL1.2.1 69 k_1) z136))) rfl (kl_70 _) (by decide) (by omega) (by omega) (by omega) (kA_70 _ _) ?_
          have hm140 : kI (kA m96 70 (up (m96.2.1 70) (mL1.2.1 69 k_1) z136)) := kI_U hm98 70 rfl (show (0 : Int) ≤ z136 by omega) (show z136 ≤ (1 : Int) by omega)
          have hf141 : fr [] [62, 70, 71] m (kA m96 70 (up (m96.2.1 70) (mL1.2.1 69 k_1) z136)) := fr_A hf102 70 _ rfl
          refine g_iinc (n := 3) (lo' := [(4, vI (mL1.2.1 69 k_1)), (0, vR 61), (1, vI a), (2, vI v)]) rfl rfl rfl ?_
          refine g_goto rfl ?_
          refine g_pick (lo' := [(3, vI (k_1 + (-1))), (0, vR 61), (1, vI a), (2, vI v)]) [0, 2, 3, 4] rfl ?_
          exact ih7_1 _ (by omega) (k_1 + (-1)) (kA m96 70 (up (m96.2.1 70) (mL1.2.1 69 k_1) z136)) hm140 hf141 (by omega) hRx t105 t106 rfl
  exact L7_1 _ (m.1 37 - 1) m hm hf0 (by omega) (fun _ _ => rfl) h_k4 h_kD rfl
theorem d_toldActs {V : cg_V} {d q : Nat} (hd : 6 ≤ d) (hq : 147 ≤ q) {m : kM} (hm : kI m) {i v : Int} (h_i : (-2147483648) ≤ i ∧ i ≤ 2147483647) (h_v : 0 ≤ v ∧ v ≤ 1) (h_k4 : k4 m) (h_kD : kD m) (h_kK : kK m) : cg_S V d q mX10_toldActs [vR 61, vI i, vI v] (kl m) (R_I (fun z m' => (kI m') ∧ (fr [37] [62, 68, 69, 70, 71] m m') ∧ (-2147483648 ≤ z) ∧ (z < 2147483648) ∧ (k4 m') ∧ (kD m') ∧ (kK m'))) := by
  have hf0 : fr [37] [62, 68, 69, 70, 71] m m := fr_rf m
  refine cg_of (List.mem_of_getElem? (show ae_MT[166]? = some mX10_toldActs from rfl)) (Nat.le_of_ble_eq_true rfl) ?_
  show cg_G V mX10_toldActs d q _ 0 [(0, vR 61), (1, vI i), (2, vI v)] [] (kl m) 0 0
  refine g_iload_n (n := 1) rfl rfl ?_
  refine g_iconst rfl ?_
  refine g_icmp_ge (by omega) (by omega) (by decide) (by decide) rfl ?_ ?_
  · intro kk1
    refine g_aload_n (n := 0) rfl rfl ?_
    refine g_iconst rfl ?_
    refine g_iconst rfl ?_
    refine c_vV (i := 61) (ps := [vI 5, vI 0]) (r := []) (as := [vR 61, vI 0, vI 5]) (cs' := 0) (sl' := 0) rfl rfl rfl rfl rfl rfl (kl_61 _) (d_copy_0_5 (d := d - 1) (q := q - (4 + 19)) (by omega) (by omega) hm  ) (by omega) (show 4 + 19 ≤ q by omega) (Nat.le_of_ble_eq_true rfl) (Nat.le_of_ble_eq_true rfl) rfl rfl rfl ?_
    rintro m3 ⟨hm5, hc6, p7, p8⟩
    have hf9 : fr [37] [62, 68, 69, 70, 71] m m3 := fr_tr hf0 (fr_le hc6 rfl rfl)
    have t10 : k4 m3 := k4_fr hc6 rfl rfl h_k4
    have t11 : kD m3 := kD_fr hc6 rfl rfl h_kD
    refine g_aload_n (n := 0) rfl rfl ?_
    refine g_iload_n (n := 2) rfl rfl ?_
    refine c_vI (i := 61) (ps := [vI v]) (r := []) (as := [vR 61, vI v]) (cs' := 0) (sl' := 0) rfl rfl rfl rfl rfl rfl (kl_61 _) (d_search (d := d - 1) (q := q - (4 + 19)) (by omega) (by omega) hm5 (v := v) (show 0 ≤ v ∧ v ≤ 1 by omega) t10 t11 (by rw [hc6.1 28 rfl, p7]; exact h_kK.1)) (by omega) (show 4 + 19 ≤ q by omega) (Nat.le_of_ble_eq_true rfl) (Nat.le_of_ble_eq_true rfl) rfl rfl rfl ?_
    rintro z12 m13 ⟨hm15, hc16, p17, p18, p19, p20⟩
    have hf21 : fr [37] [62, 68, 69, 70, 71] m m13 := fr_tr hf9 (fr_le hc16 rfl rfl)
    refine g_istore_n (n := 3) (lo' := [(0, vR 61), (1, vI i), (2, vI v)]) rfl rfl ?_
    refine g_iload_n (n := 1) rfl rfl ?_
    refine g_iconst rfl ?_
    refine g_icmp_eq (by omega) (by omega) (by decide) (by decide) rfl ?_ ?_
    · intro kk22
      refine g_iload_n (n := 1) rfl rfl ?_
      refine g_iconst rfl ?_
      refine g_icmp_ne (by omega) (by omega) (by decide) (by decide) rfl ?_ ?_
      · intro kk23
        exfalso; omega
      · intro kk24
        refine g_iload_n (n := 3) rfl rfl ?_
        refine g_goto rfl ?_
        refine g_iret rfl rfl ?_
        exact ⟨_, _, rfl, hm15, hf21, by omega, by omega, p19, p20, (kK_of (hf21.1 28 rfl) (hf21.2.1 63 rfl) (fun j hj => (p18 j (by omega)).trans (p8 j (by omega))) h_kK)⟩
    · intro kk25
      refine g_iload_n (n := 1) rfl rfl ?_
      refine g_iload_n (n := 3) rfl rfl ?_
      refine g_icmp_lt (by omega) (by omega) (by omega) (by omega) rfl ?_ ?_
      · intro kk26
        refine g_aload_n (n := 0) rfl rfl ?_
        refine g_iload_n (n := 3) rfl rfl ?_
        refine g_iload_n (n := 2) rfl rfl ?_
        refine c_vV (i := 61) (ps := [vI v, vI z12]) (r := []) (as := [vR 61, vI z12, vI v]) (cs' := 0) (sl' := 0) rfl rfl rfl rfl rfl rfl (kl_61 _) (d_layActs (d := d - 1) (q := q - (5 + 19)) (by omega) (by omega) hm15 (a := z12) (v := v) (show 0 ≤ z12 ∧ z12 ≤ 400 by omega) (show 0 ≤ v ∧ v ≤ 1 by omega) p19 p20 (by rw [kr5_eq (fun j a b => p18 j (by omega)), p7]; exact h_kK.1.1)) (by omega) (show 5 + 19 ≤ q by omega) (Nat.le_of_ble_eq_true rfl) (Nat.le_of_ble_eq_true rfl) rfl rfl rfl ?_
        rintro m28 ⟨hm30, hc31, p32⟩
        have hf33 : fr [37] [62, 68, 69, 70, 71] m m28 := fr_tr hf21 (fr_le hc31 rfl rfl)
        have t34 : k4 m28 := k4_fr hc31 rfl rfl p19
        have t35 : kD m28 := kD_fr hc31 rfl rfl p20
        refine g_aload_n (n := 0) rfl rfl ?_
        refine g_getf (v := vR 71) rfl (kl_61 _) rfl ?_
        refine g_iload_n (n := 1) rfl rfl ?_
        have h36 : (-1) ≤ m28.2.1 71 i ∧ m28.2.1 71 i ≤ 99 := hm30.2 71 i (by omega) (show i < (400 : Int) by omega)
        refine g_iald (f := m28.2.1 71) rfl (kl_71 _) (by decide) (by omega) (by omega) ?_
        refine g_iret rfl rfl ?_
        exact ⟨_, _, rfl, hm30, hf33, by omega, by omega, t34, t35, (kK_of (hf33.1 28 rfl) (hf33.2.1 63 rfl) (fun j hj => (p32 j (by omega)).trans ((p18 j (by omega)).trans (p8 j (by omega)))) h_kK)⟩
      · intro kk37
        refine g_iload_n (n := 1) rfl rfl ?_
        refine g_iconst rfl ?_
        refine g_icmp_ne (by omega) (by omega) (by decide) (by decide) rfl ?_ ?_
        · intro kk38
          refine g_iconst rfl ?_
          refine g_iret rfl rfl ?_
          exact ⟨_, _, rfl, hm15, hf21, by omega, by omega, p19, p20, (kK_of (hf21.1 28 rfl) (hf21.2.1 63 rfl) (fun j hj => (p18 j (by omega)).trans (p8 j (by omega))) h_kK)⟩
        · intro kk39
          exfalso; omega
  · intro kk40
    refine g_bipush (by decide) rfl ?_
    refine g_iret rfl rfl ?_
    exact ⟨_, _, rfl, hm, hf0, by omega, by omega, h_k4, h_kD, h_kK⟩
theorem d_fewest {V : cg_V} {d q : Nat} (hd : 7 ≤ d) (hq : 170 ≤ q) {m : kM} (hm : kI m) {i : Int} (h_i : (-2147483648) ≤ i ∧ i ≤ 2147483647) (h_k4 : k4 m) (h_kD : kD m) (h_kK : kK m) : cg_S V d q mX10_fewest [vR 61, vI i] (kl m) (R_I (fun z m' => (kI m') ∧ (fr [37] [62, 68, 69, 70, 71] m m') ∧ (-2147483648 ≤ z) ∧ (z < 2147483648) ∧ (k4 m') ∧ (kD m') ∧ (kK m'))) := by
  have hf0 : fr [37] [62, 68, 69, 70, 71] m m := fr_rf m
  refine cg_of (List.mem_of_getElem? (show ae_MT[167]? = some mX10_fewest from rfl)) (Nat.le_of_ble_eq_true rfl) ?_
  show cg_G V mX10_fewest d q _ 0 [(0, vR 61), (1, vI i)] [] (kl m) 0 0
  refine g_aload_n (n := 0) rfl rfl ?_
  refine g_iload_n (n := 1) rfl rfl ?_
  refine g_iconst rfl ?_
  refine c_vI (i := 61) (ps := [vI 0, vI i]) (r := []) (as := [vR 61, vI i, vI 0]) (cs' := 0) (sl' := 0) rfl rfl rfl rfl rfl rfl (kl_61 _) (d_toldActs (d := d - 1) (q := q - (4 + 19)) (by omega) (by omega) hm (i := i) (v := 0) (show (-2147483648) ≤ i ∧ i ≤ 2147483647 by omega) (show 0 ≤ 0 ∧ 0 ≤ 1 by omega) h_k4 h_kD h_kK) (by omega) (show 4 + 19 ≤ q by omega) (Nat.le_of_ble_eq_true rfl) (Nat.le_of_ble_eq_true rfl) rfl rfl rfl ?_
  rintro z1 m2 ⟨hm4, hc5, p6, p7, p8, p9, p10⟩
  have hf11 : fr [37] [62, 68, 69, 70, 71] m m2 := fr_tr hf0 (fr_le hc5 rfl rfl)
  refine g_iret rfl rfl ?_
  exact ⟨_, _, rfl, hm4, hf11, by omega, by omega, p8, p9, p10⟩
theorem d_out {V : cg_V} {d q : Nat} (hd : 7 ≤ d) (hq : 170 ≤ q) {m : kM} (hm : kI m) {i : Int} (h_i : (-2147483648) ≤ i ∧ i ≤ 2147483647) (h_k4 : k4 m) (h_kD : kD m) (h_kK : kK m) : cg_S V d q mX10_out [vR 61, vI i] (kl m) (R_I (fun z m' => (kI m') ∧ (fr [37] [62, 68, 69, 70, 71] m m') ∧ (-2147483648 ≤ z) ∧ (z < 2147483648) ∧ (k4 m') ∧ (kD m') ∧ (kK m'))) := by
  have hf0 : fr [37] [62, 68, 69, 70, 71] m m := fr_rf m
  refine cg_of (List.mem_of_getElem? (show ae_MT[170]? = some mX10_out from rfl)) (Nat.le_of_ble_eq_true rfl) ?_
  show cg_G V mX10_out d q _ 0 [(0, vR 61), (1, vI i)] [] (kl m) 0 0
  refine g_aload_n (n := 0) rfl rfl ?_
  refine g_iload_n (n := 1) rfl rfl ?_
  refine g_iconst rfl ?_
  refine c_vI (i := 61) (ps := [vI 1, vI i]) (r := []) (as := [vR 61, vI i, vI 1]) (cs' := 0) (sl' := 0) rfl rfl rfl rfl rfl rfl (kl_61 _) (d_toldActs (d := d - 1) (q := q - (4 + 19)) (by omega) (by omega) hm (i := i) (v := 1) (show (-2147483648) ≤ i ∧ i ≤ 2147483647 by omega) (show 0 ≤ 1 ∧ 1 ≤ 1 by omega) h_k4 h_kD h_kK) (by omega) (show 4 + 19 ≤ q by omega) (Nat.le_of_ble_eq_true rfl) (Nat.le_of_ble_eq_true rfl) rfl rfl rfl ?_
  rintro z1 m2 ⟨hm4, hc5, p6, p7, p8, p9, p10⟩
  have hf11 : fr [37] [62, 68, 69, 70, 71] m m2 := fr_tr hf0 (fr_le hc5 rfl rfl)
  refine g_iret rfl rfl ?_
  exact ⟨_, _, rfl, hm4, hf11, by omega, by omega, p8, p9, p10⟩
theorem d_by {V : cg_V} {d q : Nat} (hd : 6 ≤ d) (hq : 147 ≤ q) {m : kM} (hm : kI m) {s : Int} (h_s : (-2147483648) ≤ s ∧ s ≤ 2147483647) (h_k4 : k4 m) (h_kD : kD m) (h_kK : kK m) : cg_S V d q mX10_by [vR 61, vI s] (kl m) (R_I (fun z m' => (kI m') ∧ (fr [37] [62, 68, 69] m m') ∧ (-2147483648 ≤ z) ∧ (z < 2147483648) ∧ (k4 m') ∧ (kD m') ∧ (kK m'))) := by
  have hf0 : fr [37] [62, 68, 69] m m := fr_rf m
  refine cg_of (List.mem_of_getElem? (show ae_MT[168]? = some mX10_by from rfl)) (Nat.le_of_ble_eq_true rfl) ?_
  show cg_G V mX10_by d q _ 0 [(0, vR 61), (1, vI s)] [] (kl m) 0 0
  refine g_iload_n (n := 1) rfl rfl ?_
  refine g_i2l (by omega) (by omega) rfl ?_
  refine g_lconst (x := 0) (by decide) rfl ?_
  refine g_ldc2 (x := 3) (by decide) rfl ?_
  refine c_sI (ps := [vL 3, vL 0, vL s]) (r := []) (as := [vL s, vL 0, vL 3]) (cs' := 0) (sl' := 0) rfl rfl rfl rfl rfl rfl (d_in (d := d - 1) (q := q - (6 + 19)) (by omega) (by omega) hm (a := s) (b := 0) (c := 3) (show (-9223372036854775808) ≤ s ∧ s ≤ 9223372036854775807 by omega) (show (-9223372036854775808) ≤ 0 ∧ 0 ≤ 9223372036854775807 by omega) (show (-9223372036854775808) ≤ 3 ∧ 3 ≤ 9223372036854775807 by omega)) (by omega) (show 6 + 19 ≤ q by omega) (Nat.le_of_ble_eq_true rfl) (Nat.le_of_ble_eq_true rfl) rfl rfl rfl ?_
  rintro z1 m2 ⟨rfl, p4⟩
  refine g_if_ne (by omega) (by omega) rfl ?_ ?_
  · intro kk5
    refine g_aload_n (n := 0) rfl rfl ?_
    refine g_iconst rfl ?_
    refine g_iconst rfl ?_
    refine c_vV (i := 61) (ps := [vI 5, vI 0]) (r := []) (as := [vR 61, vI 0, vI 5]) (cs' := 0) (sl' := 0) rfl rfl rfl rfl rfl rfl (kl_61 _) (d_copy_0_5 (d := d - 1) (q := q - (4 + 19)) (by omega) (by omega) hm  ) (by omega) (show 4 + 19 ≤ q by omega) (Nat.le_of_ble_eq_true rfl) (Nat.le_of_ble_eq_true rfl) rfl rfl rfl ?_
    rintro m7 ⟨hm9, hc10, p11, p12⟩
    have hf13 : fr [37] [62, 68, 69] m m7 := fr_tr hf0 (fr_le hc10 rfl rfl)
    have t14 : k4 m7 := k4_fr hc10 rfl rfl h_k4
    have t15 : kD m7 := kD_fr hc10 rfl rfl h_kD
    refine g_aload_n (n := 0) rfl rfl ?_
    refine g_getf (v := vR 62) rfl (kl_61 _) rfl ?_
    refine g_bipush (by decide) rfl ?_
    refine g_iload_n (n := 1) rfl rfl ?_
    refine g_iAst (f := m7.2.1 62) (m' := (kA m7 62 (up (m7.2.1 62) 46 s))) rfl (kl_62 _) (by decide) (by omega) (by omega) (kA_62 _ _) ?_
    have hm16 : kI (kA m7 62 (up (m7.2.1 62) 46 s)) := kI_U hm9 62 rfl (show ((-2147483648) : Int) ≤ s by omega) (show s ≤ (2147483647 : Int) by omega)
    have hf17 : fr [37] [62, 68, 69] m (kA m7 62 (up (m7.2.1 62) 46 s)) := fr_A hf13 62 _ rfl
    have hx5 : kv (m7.1 28) (kr5 (m7.2.1 62)) := by rw [hc10.1 28 rfl, p11]; exact h_kK.1
    have e46 : kr5 (up (m7.2.1 62) 46 s) = (m7.2.1 62 40, m7.2.1 62 41, m7.2.1 62 42, m7.2.1 62 43, m7.2.1 62 44, m7.2.1 62 45, s) := rfl
    have hx6 : kv (m7.1 28) (kr5 (up (m7.2.1 62) 46 s)) := by rw [e46]; exact kv_soap hx5 (by omega) (by omega)
    refine g_aload_n (n := 0) rfl rfl ?_
    refine g_iconst rfl ?_
    refine c_vI (i := 61) (ps := [vI 0]) (r := []) (as := [vR 61, vI 0]) (cs' := 0) (sl' := 0) rfl rfl rfl rfl rfl rfl (kl_61 _) (d_search (d := d - 1) (q := q - (4 + 19)) (by omega) (by omega) hm16 (v := 0) (show 0 ≤ 0 ∧ 0 ≤ 1 by omega) t14 t15 hx6) (by omega) (show 4 + 19 ≤ q by omega) (Nat.le_of_ble_eq_true rfl) (Nat.le_of_ble_eq_true rfl) rfl rfl rfl ?_
    rintro z18 m19 ⟨hm21, hc22, p23, p24, p25, p26⟩
    have hf27 : fr [37] [62, 68, 69] m m19 := fr_tr hf17 (fr_le hc22 rfl rfl)
    refine g_iret rfl rfl ?_
    exact ⟨_, _, rfl, hm21, hf27, by omega, by omega, p25, p26, kK_of (hf27.1 28 rfl) (hf27.2.1 63 rfl) (fun j hj => (p24 j (by omega)).trans ((show up (m7.2.1 62) 46 s j = m7.2.1 62 j from up_ne _ (by omega)).trans (p12 j (by omega)))) h_kK⟩
  · intro kk28
    refine g_bipush (by decide) rfl ?_
    refine g_iret rfl rfl ?_
    exact ⟨_, _, rfl, hm, hf0, by omega, by omega, h_k4, h_kD, h_kK⟩
theorem d_worth {V : cg_V} {d q : Nat} (hd : 6 ≤ d) (hq : 147 ≤ q) {m : kM} (hm : kI m) {a : Int} (h_a : (-2147483648) ≤ a ∧ a ≤ 2147483647) (h_k4 : k4 m) (h_kD : kD m) (h_kK : kK m) : cg_S V d q mX10_worth [vR 61, vI a] (kl m) (R_I (fun z m' => (kI m') ∧ (fr [37] [62, 66, 68, 69] m m') ∧ (-2147483648 ≤ z) ∧ (z < 2147483648) ∧ (m'.2.1 66 = m.2.1 66) ∧ (k4 m') ∧ (kD m') ∧ (kK m'))) := by
  have hf0 : fr [37] [62, 66, 68, 69] m m := fr_rf m
  refine cg_of (List.mem_of_getElem? (show ae_MT[169]? = some mX10_worth from rfl)) (Nat.le_of_ble_eq_true rfl) ?_
  show cg_G V mX10_worth d q _ 0 [(0, vR 61), (1, vI a)] [] (kl m) 0 0
  refine g_aload_n (n := 0) rfl rfl ?_
  refine g_iload_n (n := 1) rfl rfl ?_
  have h1 : 0 ≤ m.1 26 ∧ m.1 26 ≤ 10 := hm.1 26
  refine c_vI (i := 61) (ps := [vI a]) (r := []) (as := [vR 61, vI a]) (cs' := 0) (sl' := 0) rfl rfl rfl rfl rfl rfl (kl_61 _) (d_isDoor (d := d - 1) (q := q - (2 + 19)) (by omega) (by omega) hm (a := a) (show (-2147483648) ≤ a ∧ a ≤ 2147483647 by omega)) (by omega) (show 2 + 19 ≤ q by omega) (Nat.le_of_ble_eq_true rfl) (Nat.le_of_ble_eq_true rfl) rfl rfl rfl ?_
  rintro z2 m3 ⟨rfl, p5⟩
  refine g_if_ne (by omega) (by omega) rfl ?_ ?_
  · intro kk6
    refine g_aload_n (n := 0) rfl rfl ?_
    refine g_iconst rfl ?_
    refine g_iconst rfl ?_
    refine c_vV (i := 61) (ps := [vI 5, vI 0]) (r := []) (as := [vR 61, vI 0, vI 5]) (cs' := 0) (sl' := 0) rfl rfl rfl rfl rfl rfl (kl_61 _) (d_copy_0_5 (d := d - 1) (q := q - (4 + 19)) (by omega) (by omega) hm  ) (by omega) (show 4 + 19 ≤ q by omega) (Nat.le_of_ble_eq_true rfl) (Nat.le_of_ble_eq_true rfl) rfl rfl rfl ?_
    rintro m8 ⟨hm10, hc11, p12, p13⟩
    have hf14 : fr [37] [62, 66, 68, 69] m m8 := fr_tr hf0 (fr_le hc11 rfl rfl)
    have h15 : m8.1 26 = m.1 26 := hc11.1 26 rfl
    have h16 : 0 ≤ m8.1 26 ∧ m8.1 26 ≤ 10 := hm10.1 26
    have t17 : k4 m8 := k4_fr hc11 rfl rfl h_k4
    have t18 : kD m8 := kD_fr hc11 rfl rfl h_kD
    refine g_aload_n (n := 0) rfl rfl ?_
    refine g_iconst rfl ?_
    refine c_vI (i := 61) (ps := [vI 0]) (r := []) (as := [vR 61, vI 0]) (cs' := 0) (sl' := 0) rfl rfl rfl rfl rfl rfl (kl_61 _) (d_search (d := d - 1) (q := q - (4 + 19)) (by omega) (by omega) hm10 (v := 0) (show 0 ≤ 0 ∧ 0 ≤ 1 by omega) t17 t18 (by rw [hc11.1 28 rfl, p12]; exact h_kK.1)) (by omega) (show 4 + 19 ≤ q by omega) (Nat.le_of_ble_eq_true rfl) (Nat.le_of_ble_eq_true rfl) rfl rfl rfl ?_
    rintro z19 m20 ⟨hm22, hc23, p24, p25, p26, p27⟩
    have hf28 : fr [37] [62, 66, 68, 69] m m20 := fr_tr hf14 (fr_le hc23 rfl rfl)
    have h29 : m20.1 26 = m8.1 26 := hc23.1 26 rfl
    have h30 : 0 ≤ m20.1 26 ∧ m20.1 26 ≤ 10 := hm22.1 26
    refine g_istore_n (n := 2) (lo' := [(0, vR 61), (1, vI a)]) rfl rfl ?_
    refine g_iload_n (n := 2) rfl rfl ?_
    refine g_iconst rfl ?_
    refine g_icmp_ne (by omega) (by omega) (by decide) (by decide) rfl ?_ ?_
    · intro kk31
      have h32 : a = 0 ∨ a = 1 ∨ a = 2 ∨ a = 3 ∨ a = 4 ∨ a = 5 ∨ a = 6 ∨ a = 7 ∨ a = 8 ∨ a = 9 := by omega
      rcases h32 with rfl | rfl | rfl | rfl | rfl | rfl | rfl | rfl | rfl | rfl
      · refine g_aload_n (n := 0) rfl rfl ?_
        refine g_getf (v := vR 66) rfl (kl_61 _) rfl ?_
        refine g_iconst rfl ?_
        refine g_iload_n (n := 1) rfl rfl ?_
        refine g_imulE (z := 0) (by decide) rfl ?_
        refine g_iconst rfl ?_
        refine g_iaddE (z := 3) (by decide) rfl ?_
        have h33 : 0 ≤ m20.2.1 66 3 ∧ m20.2.1 66 3 ≤ 5 := hm22.2 66 3 (by decide) (show (3 : Int) < 40 by decide)
        have h34 : m20.2.1 66 3 = m8.2.1 66 3 := congrFun (hc23.2.1 66 rfl) _
        refine g_ialE (f := m20.2.1 66) (v := m20.2.1 66 3) rfl (kl_66 _) (by decide) (by decide) (by decide) rfl ?_
        refine g_istore_n (n := 3) (lo' := [(2, vI z19), (0, vR 61), (1, vI 0)]) rfl rfl ?_
        refine g_aload_n (n := 0) rfl rfl ?_
        refine g_getf (v := vR 66) rfl (kl_61 _) rfl ?_
        refine g_iconst rfl ?_
        refine g_iload_n (n := 1) rfl rfl ?_
        refine g_imulE (z := 0) (by decide) rfl ?_
        refine g_iconst rfl ?_
        refine g_iaddE (z := 3) (by decide) rfl ?_
        refine g_iconst rfl ?_
        refine g_iAst (f := m20.2.1 66) (m' := (kA m20 66 (up (m20.2.1 66) 3 1))) rfl (kl_66 _) (by decide) (by omega) (by omega) (kA_66 _ _) ?_
        have hm35 : kI (kA m20 66 (up (m20.2.1 66) 3 1)) := kI_U hm22 66 rfl (show (0 : Int) ≤ 1 by omega) (show 1 ≤ (5 : Int) by omega)
        have hf36 : fr [37] [62, 66, 68, 69] m (kA m20 66 (up (m20.2.1 66) 3 1)) := fr_A hf28 66 _ rfl
        have hD9 : kD (kA m20 66 (up (m20.2.1 66) 3 1)) := fun e x y => by show up (m20.2.1 66) 3 1 (4 * e) ≠ up (m20.2.1 66) 3 1 (4 * e + 1); rw [up_ne _ (by omega), up_ne _ (by omega)]; exact p27 e x y
        refine g_aload_n (n := 0) rfl rfl ?_
        refine g_iconst rfl ?_
        refine c_vI (i := 61) (ps := [vI 0]) (r := []) (as := [vR 61, vI 0]) (cs' := 0) (sl' := 0) rfl rfl rfl rfl rfl rfl (kl_61 _) (d_search (d := d - 1) (q := q - (4 + 19)) (by omega) (by omega) hm35 (v := 0) (show 0 ≤ 0 ∧ 0 ≤ 1 by omega) p26 hD9 (by show kv (m20.1 28) (kr5 (m20.2.1 62)); rw [hc23.1 28 rfl, hc11.1 28 rfl, kr5_eq (fun j a b => p25 j (by omega)), p12]; exact h_kK.1)) (by omega) (show 4 + 19 ≤ q by omega) (Nat.le_of_ble_eq_true rfl) (Nat.le_of_ble_eq_true rfl) rfl rfl rfl ?_
        rintro z37 m38 ⟨hm40, hc41, p42, p43, p44, p45⟩
        have hf46 : fr [37] [62, 66, 68, 69] m m38 := fr_tr hf36 (fr_le hc41 rfl rfl)
        have h47 : m38.1 26 = m20.1 26 := hc41.1 26 rfl
        have h48 : 0 ≤ m38.1 26 ∧ m38.1 26 ≤ 10 := hm40.1 26
        refine g_istore (n := 4) (lo' := [(3, vI (m20.2.1 66 3)), (2, vI z19), (0, vR 61), (1, vI 0)]) rfl rfl ?_
        refine g_aload_n (n := 0) rfl rfl ?_
        refine g_getf (v := vR 66) rfl (kl_61 _) rfl ?_
        refine g_iconst rfl ?_
        refine g_iload_n (n := 1) rfl rfl ?_
        refine g_imulE (z := 0) (by decide) rfl ?_
        refine g_iconst rfl ?_
        refine g_iaddE (z := 3) (by decide) rfl ?_
        refine g_iload_n (n := 3) rfl rfl ?_
        refine g_iAst (f := m38.2.1 66) (m' := (kA m38 66 (up (m38.2.1 66) 3 (m20.2.1 66 3)))) rfl (kl_66 _) (by decide) (by omega) (by omega) (kA_66 _ _) ?_
        have hm49 : kI (kA m38 66 (up (m38.2.1 66) 3 (m20.2.1 66 3))) := kI_U hm40 66 rfl (show (0 : Int) ≤ m20.2.1 66 3 by omega) (show m20.2.1 66 3 ≤ (5 : Int) by omega)
        have hf50 : fr [37] [62, 66, 68, 69] m (kA m38 66 (up (m38.2.1 66) 3 (m20.2.1 66 3))) := fr_A hf46 66 _ rfl
        refine g_iload_n (n := 2) rfl rfl ?_
        refine g_iload (n := 4) rfl rfl ?_
        refine g_isub rfl ?_
        refine g_iret rfl rfl ?_
        have q3 : m20.2.1 66 = m.2.1 66 := (hc23.2.1 66 rfl).trans (hc11.2.1 66 rfl)
        have q4 : m38.2.1 66 = up (m20.2.1 66) 3 1 := hc41.2.1 66 rfl
        have q5 : (kA m38 66 (up (m38.2.1 66) 3 (m20.2.1 66 3))).2.1 66 = m.2.1 66 := by
          show up (m38.2.1 66) 3 (m20.2.1 66 3) = _
          funext j
          by_cases e : j = 3
          · rw [e, up_same, q3]
          · rw [up_ne _ e, q4, up_ne _ e, q3]
        have hDz : kD (kA m38 66 (up (m38.2.1 66) 3 (m20.2.1 66 3))) := by unfold kD; rw [q5, hf50.1 26 rfl]; exact h_kD
        exact ⟨_, _, rfl, hm49, hf50, by omega, by omega, q5, p44, hDz, kK_of (hf50.1 28 rfl) (hf50.2.1 63 rfl) (fun j hj => (p43 j (by omega)).trans ((p25 j (by omega)).trans (p13 j (by omega)))) h_kK⟩
      · refine g_aload_n (n := 0) rfl rfl ?_
        refine g_getf (v := vR 66) rfl (kl_61 _) rfl ?_
        refine g_iconst rfl ?_
        refine g_iload_n (n := 1) rfl rfl ?_
        refine g_imulE (z := 4) (by decide) rfl ?_
        refine g_iconst rfl ?_
        refine g_iaddE (z := 7) (by decide) rfl ?_
        have h51 : 0 ≤ m20.2.1 66 7 ∧ m20.2.1 66 7 ≤ 5 := hm22.2 66 7 (by decide) (show (7 : Int) < 40 by decide)
        have h52 : m20.2.1 66 7 = m8.2.1 66 7 := congrFun (hc23.2.1 66 rfl) _
        refine g_ialE (f := m20.2.1 66) (v := m20.2.1 66 7) rfl (kl_66 _) (by decide) (by decide) (by decide) rfl ?_
        refine g_istore_n (n := 3) (lo' := [(2, vI z19), (0, vR 61), (1, vI 1)]) rfl rfl ?_
        refine g_aload_n (n := 0) rfl rfl ?_
        refine g_getf (v := vR 66) rfl (kl_61 _) rfl ?_
        refine g_iconst rfl ?_
        refine g_iload_n (n := 1) rfl rfl ?_
        refine g_imulE (z := 4) (by decide) rfl ?_
        refine g_iconst rfl ?_
        refine g_iaddE (z := 7) (by decide) rfl ?_
        refine g_iconst rfl ?_
        refine g_iAst (f := m20.2.1 66) (m' := (kA m20 66 (up (m20.2.1 66) 7 1))) rfl (kl_66 _) (by decide) (by omega) (by omega) (kA_66 _ _) ?_
        have hm53 : kI (kA m20 66 (up (m20.2.1 66) 7 1)) := kI_U hm22 66 rfl (show (0 : Int) ≤ 1 by omega) (show 1 ≤ (5 : Int) by omega)
        have hf54 : fr [37] [62, 66, 68, 69] m (kA m20 66 (up (m20.2.1 66) 7 1)) := fr_A hf28 66 _ rfl
        have hD9 : kD (kA m20 66 (up (m20.2.1 66) 7 1)) := fun e x y => by show up (m20.2.1 66) 7 1 (4 * e) ≠ up (m20.2.1 66) 7 1 (4 * e + 1); rw [up_ne _ (by omega), up_ne _ (by omega)]; exact p27 e x y
        refine g_aload_n (n := 0) rfl rfl ?_
        refine g_iconst rfl ?_
        refine c_vI (i := 61) (ps := [vI 0]) (r := []) (as := [vR 61, vI 0]) (cs' := 0) (sl' := 0) rfl rfl rfl rfl rfl rfl (kl_61 _) (d_search (d := d - 1) (q := q - (4 + 19)) (by omega) (by omega) hm53 (v := 0) (show 0 ≤ 0 ∧ 0 ≤ 1 by omega) p26 hD9 (by show kv (m20.1 28) (kr5 (m20.2.1 62)); rw [hc23.1 28 rfl, hc11.1 28 rfl, kr5_eq (fun j a b => p25 j (by omega)), p12]; exact h_kK.1)) (by omega) (show 4 + 19 ≤ q by omega) (Nat.le_of_ble_eq_true rfl) (Nat.le_of_ble_eq_true rfl) rfl rfl rfl ?_
        rintro z55 m56 ⟨hm58, hc59, p60, p61, p62, p63⟩
        have hf64 : fr [37] [62, 66, 68, 69] m m56 := fr_tr hf54 (fr_le hc59 rfl rfl)
        have h65 : m56.1 26 = m20.1 26 := hc59.1 26 rfl
        have h66 : 0 ≤ m56.1 26 ∧ m56.1 26 ≤ 10 := hm58.1 26
        refine g_istore (n := 4) (lo' := [(3, vI (m20.2.1 66 7)), (2, vI z19), (0, vR 61), (1, vI 1)]) rfl rfl ?_
        refine g_aload_n (n := 0) rfl rfl ?_
        refine g_getf (v := vR 66) rfl (kl_61 _) rfl ?_
        refine g_iconst rfl ?_
        refine g_iload_n (n := 1) rfl rfl ?_
        refine g_imulE (z := 4) (by decide) rfl ?_
        refine g_iconst rfl ?_
        refine g_iaddE (z := 7) (by decide) rfl ?_
        refine g_iload_n (n := 3) rfl rfl ?_
        refine g_iAst (f := m56.2.1 66) (m' := (kA m56 66 (up (m56.2.1 66) 7 (m20.2.1 66 7)))) rfl (kl_66 _) (by decide) (by omega) (by omega) (kA_66 _ _) ?_
        have hm67 : kI (kA m56 66 (up (m56.2.1 66) 7 (m20.2.1 66 7))) := kI_U hm58 66 rfl (show (0 : Int) ≤ m20.2.1 66 7 by omega) (show m20.2.1 66 7 ≤ (5 : Int) by omega)
        have hf68 : fr [37] [62, 66, 68, 69] m (kA m56 66 (up (m56.2.1 66) 7 (m20.2.1 66 7))) := fr_A hf64 66 _ rfl
        refine g_iload_n (n := 2) rfl rfl ?_
        refine g_iload (n := 4) rfl rfl ?_
        refine g_isub rfl ?_
        refine g_iret rfl rfl ?_
        have q3 : m20.2.1 66 = m.2.1 66 := (hc23.2.1 66 rfl).trans (hc11.2.1 66 rfl)
        have q4 : m56.2.1 66 = up (m20.2.1 66) 7 1 := hc59.2.1 66 rfl
        have q5 : (kA m56 66 (up (m56.2.1 66) 7 (m20.2.1 66 7))).2.1 66 = m.2.1 66 := by
          show up (m56.2.1 66) 7 (m20.2.1 66 7) = _
          funext j
          by_cases e : j = 7
          · rw [e, up_same, q3]
          · rw [up_ne _ e, q4, up_ne _ e, q3]
        have hDz : kD (kA m56 66 (up (m56.2.1 66) 7 (m20.2.1 66 7))) := by unfold kD; rw [q5, hf68.1 26 rfl]; exact h_kD
        exact ⟨_, _, rfl, hm67, hf68, by omega, by omega, q5, p62, hDz, kK_of (hf68.1 28 rfl) (hf68.2.1 63 rfl) (fun j hj => (p61 j (by omega)).trans ((p25 j (by omega)).trans (p13 j (by omega)))) h_kK⟩
      · refine g_aload_n (n := 0) rfl rfl ?_
        refine g_getf (v := vR 66) rfl (kl_61 _) rfl ?_
        refine g_iconst rfl ?_
        refine g_iload_n (n := 1) rfl rfl ?_
        refine g_imulE (z := 8) (by decide) rfl ?_
        refine g_iconst rfl ?_
        refine g_iaddE (z := 11) (by decide) rfl ?_
        have h69 : 0 ≤ m20.2.1 66 11 ∧ m20.2.1 66 11 ≤ 5 := hm22.2 66 11 (by decide) (show (11 : Int) < 40 by decide)
        have h70 : m20.2.1 66 11 = m8.2.1 66 11 := congrFun (hc23.2.1 66 rfl) _
        refine g_ialE (f := m20.2.1 66) (v := m20.2.1 66 11) rfl (kl_66 _) (by decide) (by decide) (by decide) rfl ?_
        refine g_istore_n (n := 3) (lo' := [(2, vI z19), (0, vR 61), (1, vI 2)]) rfl rfl ?_
        refine g_aload_n (n := 0) rfl rfl ?_
        refine g_getf (v := vR 66) rfl (kl_61 _) rfl ?_
        refine g_iconst rfl ?_
        refine g_iload_n (n := 1) rfl rfl ?_
        refine g_imulE (z := 8) (by decide) rfl ?_
        refine g_iconst rfl ?_
        refine g_iaddE (z := 11) (by decide) rfl ?_
        refine g_iconst rfl ?_
        refine g_iAst (f := m20.2.1 66) (m' := (kA m20 66 (up (m20.2.1 66) 11 1))) rfl (kl_66 _) (by decide) (by omega) (by omega) (kA_66 _ _) ?_
        have hm71 : kI (kA m20 66 (up (m20.2.1 66) 11 1)) := kI_U hm22 66 rfl (show (0 : Int) ≤ 1 by omega) (show 1 ≤ (5 : Int) by omega)
        have hf72 : fr [37] [62, 66, 68, 69] m (kA m20 66 (up (m20.2.1 66) 11 1)) := fr_A hf28 66 _ rfl
        have hD9 : kD (kA m20 66 (up (m20.2.1 66) 11 1)) := fun e x y => by show up (m20.2.1 66) 11 1 (4 * e) ≠ up (m20.2.1 66) 11 1 (4 * e + 1); rw [up_ne _ (by omega), up_ne _ (by omega)]; exact p27 e x y
        refine g_aload_n (n := 0) rfl rfl ?_
        refine g_iconst rfl ?_
        refine c_vI (i := 61) (ps := [vI 0]) (r := []) (as := [vR 61, vI 0]) (cs' := 0) (sl' := 0) rfl rfl rfl rfl rfl rfl (kl_61 _) (d_search (d := d - 1) (q := q - (4 + 19)) (by omega) (by omega) hm71 (v := 0) (show 0 ≤ 0 ∧ 0 ≤ 1 by omega) p26 hD9 (by show kv (m20.1 28) (kr5 (m20.2.1 62)); rw [hc23.1 28 rfl, hc11.1 28 rfl, kr5_eq (fun j a b => p25 j (by omega)), p12]; exact h_kK.1)) (by omega) (show 4 + 19 ≤ q by omega) (Nat.le_of_ble_eq_true rfl) (Nat.le_of_ble_eq_true rfl) rfl rfl rfl ?_
        rintro z73 m74 ⟨hm76, hc77, p78, p79, p80, p81⟩
        have hf82 : fr [37] [62, 66, 68, 69] m m74 := fr_tr hf72 (fr_le hc77 rfl rfl)
        have h83 : m74.1 26 = m20.1 26 := hc77.1 26 rfl
        have h84 : 0 ≤ m74.1 26 ∧ m74.1 26 ≤ 10 := hm76.1 26
        refine g_istore (n := 4) (lo' := [(3, vI (m20.2.1 66 11)), (2, vI z19), (0, vR 61), (1, vI 2)]) rfl rfl ?_
        refine g_aload_n (n := 0) rfl rfl ?_
        refine g_getf (v := vR 66) rfl (kl_61 _) rfl ?_
        refine g_iconst rfl ?_
        refine g_iload_n (n := 1) rfl rfl ?_
        refine g_imulE (z := 8) (by decide) rfl ?_
        refine g_iconst rfl ?_
        refine g_iaddE (z := 11) (by decide) rfl ?_
        refine g_iload_n (n := 3) rfl rfl ?_
        refine g_iAst (f := m74.2.1 66) (m' := (kA m74 66 (up (m74.2.1 66) 11 (m20.2.1 66 11)))) rfl (kl_66 _) (by decide) (by omega) (by omega) (kA_66 _ _) ?_
        have hm85 : kI (kA m74 66 (up (m74.2.1 66) 11 (m20.2.1 66 11))) := kI_U hm76 66 rfl (show (0 : Int) ≤ m20.2.1 66 11 by omega) (show m20.2.1 66 11 ≤ (5 : Int) by omega)
        have hf86 : fr [37] [62, 66, 68, 69] m (kA m74 66 (up (m74.2.1 66) 11 (m20.2.1 66 11))) := fr_A hf82 66 _ rfl
        refine g_iload_n (n := 2) rfl rfl ?_
        refine g_iload (n := 4) rfl rfl ?_
        refine g_isub rfl ?_
        refine g_iret rfl rfl ?_
        have q3 : m20.2.1 66 = m.2.1 66 := (hc23.2.1 66 rfl).trans (hc11.2.1 66 rfl)
        have q4 : m74.2.1 66 = up (m20.2.1 66) 11 1 := hc77.2.1 66 rfl
        have q5 : (kA m74 66 (up (m74.2.1 66) 11 (m20.2.1 66 11))).2.1 66 = m.2.1 66 := by
          show up (m74.2.1 66) 11 (m20.2.1 66 11) = _
          funext j
          by_cases e : j = 11
          · rw [e, up_same, q3]
          · rw [up_ne _ e, q4, up_ne _ e, q3]
        have hDz : kD (kA m74 66 (up (m74.2.1 66) 11 (m20.2.1 66 11))) := by unfold kD; rw [q5, hf86.1 26 rfl]; exact h_kD
        exact ⟨_, _, rfl, hm85, hf86, by omega, by omega, q5, p80, hDz, kK_of (hf86.1 28 rfl) (hf86.2.1 63 rfl) (fun j hj => (p79 j (by omega)).trans ((p25 j (by omega)).trans (p13 j (by omega)))) h_kK⟩
      · refine g_aload_n (n := 0) rfl rfl ?_
        refine g_getf (v := vR 66) rfl (kl_61 _) rfl ?_
        refine g_iconst rfl ?_
        refine g_iload_n (n := 1) rfl rfl ?_
        refine g_imulE (z := 12) (by decide) rfl ?_
        refine g_iconst rfl ?_
        refine g_iaddE (z := 15) (by decide) rfl ?_
        have h87 : 0 ≤ m20.2.1 66 15 ∧ m20.2.1 66 15 ≤ 5 := hm22.2 66 15 (by decide) (show (15 : Int) < 40 by decide)
        have h88 : m20.2.1 66 15 = m8.2.1 66 15 := congrFun (hc23.2.1 66 rfl) _
        refine g_ialE (f := m20.2.1 66) (v := m20.2.1 66 15) rfl (kl_66 _) (by decide) (by decide) (by decide) rfl ?_
        refine g_istore_n (n := 3) (lo' := [(2, vI z19), (0, vR 61), (1, vI 3)]) rfl rfl ?_
        refine g_aload_n (n := 0) rfl rfl ?_
        refine g_getf (v := vR 66) rfl (kl_61 _) rfl ?_
        refine g_iconst rfl ?_
        refine g_iload_n (n := 1) rfl rfl ?_
        refine g_imulE (z := 12) (by decide) rfl ?_
        refine g_iconst rfl ?_
        refine g_iaddE (z := 15) (by decide) rfl ?_
        refine g_iconst rfl ?_
        refine g_iAst (f := m20.2.1 66) (m' := (kA m20 66 (up (m20.2.1 66) 15 1))) rfl (kl_66 _) (by decide) (by omega) (by omega) (kA_66 _ _) ?_
        have hm89 : kI (kA m20 66 (up (m20.2.1 66) 15 1)) := kI_U hm22 66 rfl (show (0 : Int) ≤ 1 by omega) (show 1 ≤ (5 : Int) by omega)
        have hf90 : fr [37] [62, 66, 68, 69] m (kA m20 66 (up (m20.2.1 66) 15 1)) := fr_A hf28 66 _ rfl
        have hD9 : kD (kA m20 66 (up (m20.2.1 66) 15 1)) := fun e x y => by show up (m20.2.1 66) 15 1 (4 * e) ≠ up (m20.2.1 66) 15 1 (4 * e + 1); rw [up_ne _ (by omega), up_ne _ (by omega)]; exact p27 e x y
        refine g_aload_n (n := 0) rfl rfl ?_
        refine g_iconst rfl ?_
        refine c_vI (i := 61) (ps := [vI 0]) (r := []) (as := [vR 61, vI 0]) (cs' := 0) (sl' := 0) rfl rfl rfl rfl rfl rfl (kl_61 _) (d_search (d := d - 1) (q := q - (4 + 19)) (by omega) (by omega) hm89 (v := 0) (show 0 ≤ 0 ∧ 0 ≤ 1 by omega) p26 hD9 (by show kv (m20.1 28) (kr5 (m20.2.1 62)); rw [hc23.1 28 rfl, hc11.1 28 rfl, kr5_eq (fun j a b => p25 j (by omega)), p12]; exact h_kK.1)) (by omega) (show 4 + 19 ≤ q by omega) (Nat.le_of_ble_eq_true rfl) (Nat.le_of_ble_eq_true rfl) rfl rfl rfl ?_
        rintro z91 m92 ⟨hm94, hc95, p96, p97, p98, p99⟩
        have hf100 : fr [37] [62, 66, 68, 69] m m92 := fr_tr hf90 (fr_le hc95 rfl rfl)
        have h101 : m92.1 26 = m20.1 26 := hc95.1 26 rfl
        have h102 : 0 ≤ m92.1 26 ∧ m92.1 26 ≤ 10 := hm94.1 26
        refine g_istore (n := 4) (lo' := [(3, vI (m20.2.1 66 15)), (2, vI z19), (0, vR 61), (1, vI 3)]) rfl rfl ?_
        refine g_aload_n (n := 0) rfl rfl ?_
        refine g_getf (v := vR 66) rfl (kl_61 _) rfl ?_
        refine g_iconst rfl ?_
        refine g_iload_n (n := 1) rfl rfl ?_
        refine g_imulE (z := 12) (by decide) rfl ?_
        refine g_iconst rfl ?_
        refine g_iaddE (z := 15) (by decide) rfl ?_
        refine g_iload_n (n := 3) rfl rfl ?_
        refine g_iAst (f := m92.2.1 66) (m' := (kA m92 66 (up (m92.2.1 66) 15 (m20.2.1 66 15)))) rfl (kl_66 _) (by decide) (by omega) (by omega) (kA_66 _ _) ?_
        have hm103 : kI (kA m92 66 (up (m92.2.1 66) 15 (m20.2.1 66 15))) := kI_U hm94 66 rfl (show (0 : Int) ≤ m20.2.1 66 15 by omega) (show m20.2.1 66 15 ≤ (5 : Int) by omega)
        have hf104 : fr [37] [62, 66, 68, 69] m (kA m92 66 (up (m92.2.1 66) 15 (m20.2.1 66 15))) := fr_A hf100 66 _ rfl
        refine g_iload_n (n := 2) rfl rfl ?_
        refine g_iload (n := 4) rfl rfl ?_
        refine g_isub rfl ?_
        refine g_iret rfl rfl ?_
        have q3 : m20.2.1 66 = m.2.1 66 := (hc23.2.1 66 rfl).trans (hc11.2.1 66 rfl)
        have q4 : m92.2.1 66 = up (m20.2.1 66) 15 1 := hc95.2.1 66 rfl
        have q5 : (kA m92 66 (up (m92.2.1 66) 15 (m20.2.1 66 15))).2.1 66 = m.2.1 66 := by
          show up (m92.2.1 66) 15 (m20.2.1 66 15) = _
          funext j
          by_cases e : j = 15
          · rw [e, up_same, q3]
          · rw [up_ne _ e, q4, up_ne _ e, q3]
        have hDz : kD (kA m92 66 (up (m92.2.1 66) 15 (m20.2.1 66 15))) := by unfold kD; rw [q5, hf104.1 26 rfl]; exact h_kD
        exact ⟨_, _, rfl, hm103, hf104, by omega, by omega, q5, p98, hDz, kK_of (hf104.1 28 rfl) (hf104.2.1 63 rfl) (fun j hj => (p97 j (by omega)).trans ((p25 j (by omega)).trans (p13 j (by omega)))) h_kK⟩
      · refine g_aload_n (n := 0) rfl rfl ?_
        refine g_getf (v := vR 66) rfl (kl_61 _) rfl ?_
        refine g_iconst rfl ?_
        refine g_iload_n (n := 1) rfl rfl ?_
        refine g_imulE (z := 16) (by decide) rfl ?_
        refine g_iconst rfl ?_
        refine g_iaddE (z := 19) (by decide) rfl ?_
        have h105 : 0 ≤ m20.2.1 66 19 ∧ m20.2.1 66 19 ≤ 5 := hm22.2 66 19 (by decide) (show (19 : Int) < 40 by decide)
        have h106 : m20.2.1 66 19 = m8.2.1 66 19 := congrFun (hc23.2.1 66 rfl) _
        refine g_ialE (f := m20.2.1 66) (v := m20.2.1 66 19) rfl (kl_66 _) (by decide) (by decide) (by decide) rfl ?_
        refine g_istore_n (n := 3) (lo' := [(2, vI z19), (0, vR 61), (1, vI 4)]) rfl rfl ?_
        refine g_aload_n (n := 0) rfl rfl ?_
        refine g_getf (v := vR 66) rfl (kl_61 _) rfl ?_
        refine g_iconst rfl ?_
        refine g_iload_n (n := 1) rfl rfl ?_
        refine g_imulE (z := 16) (by decide) rfl ?_
        refine g_iconst rfl ?_
        refine g_iaddE (z := 19) (by decide) rfl ?_
        refine g_iconst rfl ?_
        refine g_iAst (f := m20.2.1 66) (m' := (kA m20 66 (up (m20.2.1 66) 19 1))) rfl (kl_66 _) (by decide) (by omega) (by omega) (kA_66 _ _) ?_
        have hm107 : kI (kA m20 66 (up (m20.2.1 66) 19 1)) := kI_U hm22 66 rfl (show (0 : Int) ≤ 1 by omega) (show 1 ≤ (5 : Int) by omega)
        have hf108 : fr [37] [62, 66, 68, 69] m (kA m20 66 (up (m20.2.1 66) 19 1)) := fr_A hf28 66 _ rfl
        have hD9 : kD (kA m20 66 (up (m20.2.1 66) 19 1)) := fun e x y => by show up (m20.2.1 66) 19 1 (4 * e) ≠ up (m20.2.1 66) 19 1 (4 * e + 1); rw [up_ne _ (by omega), up_ne _ (by omega)]; exact p27 e x y
        refine g_aload_n (n := 0) rfl rfl ?_
        refine g_iconst rfl ?_
        refine c_vI (i := 61) (ps := [vI 0]) (r := []) (as := [vR 61, vI 0]) (cs' := 0) (sl' := 0) rfl rfl rfl rfl rfl rfl (kl_61 _) (d_search (d := d - 1) (q := q - (4 + 19)) (by omega) (by omega) hm107 (v := 0) (show 0 ≤ 0 ∧ 0 ≤ 1 by omega) p26 hD9 (by show kv (m20.1 28) (kr5 (m20.2.1 62)); rw [hc23.1 28 rfl, hc11.1 28 rfl, kr5_eq (fun j a b => p25 j (by omega)), p12]; exact h_kK.1)) (by omega) (show 4 + 19 ≤ q by omega) (Nat.le_of_ble_eq_true rfl) (Nat.le_of_ble_eq_true rfl) rfl rfl rfl ?_
        rintro z109 m110 ⟨hm112, hc113, p114, p115, p116, p117⟩
        have hf118 : fr [37] [62, 66, 68, 69] m m110 := fr_tr hf108 (fr_le hc113 rfl rfl)
        have h119 : m110.1 26 = m20.1 26 := hc113.1 26 rfl
        have h120 : 0 ≤ m110.1 26 ∧ m110.1 26 ≤ 10 := hm112.1 26
        refine g_istore (n := 4) (lo' := [(3, vI (m20.2.1 66 19)), (2, vI z19), (0, vR 61), (1, vI 4)]) rfl rfl ?_
        refine g_aload_n (n := 0) rfl rfl ?_
        refine g_getf (v := vR 66) rfl (kl_61 _) rfl ?_
        refine g_iconst rfl ?_
        refine g_iload_n (n := 1) rfl rfl ?_
        refine g_imulE (z := 16) (by decide) rfl ?_
        refine g_iconst rfl ?_
        refine g_iaddE (z := 19) (by decide) rfl ?_
        refine g_iload_n (n := 3) rfl rfl ?_
        refine g_iAst (f := m110.2.1 66) (m' := (kA m110 66 (up (m110.2.1 66) 19 (m20.2.1 66 19)))) rfl (kl_66 _) (by decide) (by omega) (by omega) (kA_66 _ _) ?_
        have hm121 : kI (kA m110 66 (up (m110.2.1 66) 19 (m20.2.1 66 19))) := kI_U hm112 66 rfl (show (0 : Int) ≤ m20.2.1 66 19 by omega) (show m20.2.1 66 19 ≤ (5 : Int) by omega)
        have hf122 : fr [37] [62, 66, 68, 69] m (kA m110 66 (up (m110.2.1 66) 19 (m20.2.1 66 19))) := fr_A hf118 66 _ rfl
        refine g_iload_n (n := 2) rfl rfl ?_
        refine g_iload (n := 4) rfl rfl ?_
        refine g_isub rfl ?_
        refine g_iret rfl rfl ?_
        have q3 : m20.2.1 66 = m.2.1 66 := (hc23.2.1 66 rfl).trans (hc11.2.1 66 rfl)
        have q4 : m110.2.1 66 = up (m20.2.1 66) 19 1 := hc113.2.1 66 rfl
        have q5 : (kA m110 66 (up (m110.2.1 66) 19 (m20.2.1 66 19))).2.1 66 = m.2.1 66 := by
          show up (m110.2.1 66) 19 (m20.2.1 66 19) = _
          funext j
          by_cases e : j = 19
          · rw [e, up_same, q3]
          · rw [up_ne _ e, q4, up_ne _ e, q3]
        have hDz : kD (kA m110 66 (up (m110.2.1 66) 19 (m20.2.1 66 19))) := by unfold kD; rw [q5, hf122.1 26 rfl]; exact h_kD
        exact ⟨_, _, rfl, hm121, hf122, by omega, by omega, q5, p116, hDz, kK_of (hf122.1 28 rfl) (hf122.2.1 63 rfl) (fun j hj => (p115 j (by omega)).trans ((p25 j (by omega)).trans (p13 j (by omega)))) h_kK⟩
      · refine g_aload_n (n := 0) rfl rfl ?_
        refine g_getf (v := vR 66) rfl (kl_61 _) rfl ?_
        refine g_iconst rfl ?_
        refine g_iload_n (n := 1) rfl rfl ?_
        refine g_imulE (z := 20) (by decide) rfl ?_
        refine g_iconst rfl ?_
        refine g_iaddE (z := 23) (by decide) rfl ?_
        have h123 : 0 ≤ m20.2.1 66 23 ∧ m20.2.1 66 23 ≤ 5 := hm22.2 66 23 (by decide) (show (23 : Int) < 40 by decide)
        have h124 : m20.2.1 66 23 = m8.2.1 66 23 := congrFun (hc23.2.1 66 rfl) _
        refine g_ialE (f := m20.2.1 66) (v := m20.2.1 66 23) rfl (kl_66 _) (by decide) (by decide) (by decide) rfl ?_
        refine g_istore_n (n := 3) (lo' := [(2, vI z19), (0, vR 61), (1, vI 5)]) rfl rfl ?_
        refine g_aload_n (n := 0) rfl rfl ?_
        refine g_getf (v := vR 66) rfl (kl_61 _) rfl ?_
        refine g_iconst rfl ?_
        refine g_iload_n (n := 1) rfl rfl ?_
        refine g_imulE (z := 20) (by decide) rfl ?_
        refine g_iconst rfl ?_
        refine g_iaddE (z := 23) (by decide) rfl ?_
        refine g_iconst rfl ?_
        refine g_iAst (f := m20.2.1 66) (m' := (kA m20 66 (up (m20.2.1 66) 23 1))) rfl (kl_66 _) (by decide) (by omega) (by omega) (kA_66 _ _) ?_
        have hm125 : kI (kA m20 66 (up (m20.2.1 66) 23 1)) := kI_U hm22 66 rfl (show (0 : Int) ≤ 1 by omega) (show 1 ≤ (5 : Int) by omega)
        have hf126 : fr [37] [62, 66, 68, 69] m (kA m20 66 (up (m20.2.1 66) 23 1)) := fr_A hf28 66 _ rfl
        have hD9 : kD (kA m20 66 (up (m20.2.1 66) 23 1)) := fun e x y => by show up (m20.2.1 66) 23 1 (4 * e) ≠ up (m20.2.1 66) 23 1 (4 * e + 1); rw [up_ne _ (by omega), up_ne _ (by omega)]; exact p27 e x y
        refine g_aload_n (n := 0) rfl rfl ?_
        refine g_iconst rfl ?_
        refine c_vI (i := 61) (ps := [vI 0]) (r := []) (as := [vR 61, vI 0]) (cs' := 0) (sl' := 0) rfl rfl rfl rfl rfl rfl (kl_61 _) (d_search (d := d - 1) (q := q - (4 + 19)) (by omega) (by omega) hm125 (v := 0) (show 0 ≤ 0 ∧ 0 ≤ 1 by omega) p26 hD9 (by show kv (m20.1 28) (kr5 (m20.2.1 62)); rw [hc23.1 28 rfl, hc11.1 28 rfl, kr5_eq (fun j a b => p25 j (by omega)), p12]; exact h_kK.1)) (by omega) (show 4 + 19 ≤ q by omega) (Nat.le_of_ble_eq_true rfl) (Nat.le_of_ble_eq_true rfl) rfl rfl rfl ?_
        rintro z127 m128 ⟨hm130, hc131, p132, p133, p134, p135⟩
        have hf136 : fr [37] [62, 66, 68, 69] m m128 := fr_tr hf126 (fr_le hc131 rfl rfl)
        have h137 : m128.1 26 = m20.1 26 := hc131.1 26 rfl
        have h138 : 0 ≤ m128.1 26 ∧ m128.1 26 ≤ 10 := hm130.1 26
        refine g_istore (n := 4) (lo' := [(3, vI (m20.2.1 66 23)), (2, vI z19), (0, vR 61), (1, vI 5)]) rfl rfl ?_
        refine g_aload_n (n := 0) rfl rfl ?_
        refine g_getf (v := vR 66) rfl (kl_61 _) rfl ?_
        refine g_iconst rfl ?_
        refine g_iload_n (n := 1) rfl rfl ?_
        refine g_imulE (z := 20) (by decide) rfl ?_
        refine g_iconst rfl ?_
        refine g_iaddE (z := 23) (by decide) rfl ?_
        refine g_iload_n (n := 3) rfl rfl ?_
        refine g_iAst (f := m128.2.1 66) (m' := (kA m128 66 (up (m128.2.1 66) 23 (m20.2.1 66 23)))) rfl (kl_66 _) (by decide) (by omega) (by omega) (kA_66 _ _) ?_
        have hm139 : kI (kA m128 66 (up (m128.2.1 66) 23 (m20.2.1 66 23))) := kI_U hm130 66 rfl (show (0 : Int) ≤ m20.2.1 66 23 by omega) (show m20.2.1 66 23 ≤ (5 : Int) by omega)
        have hf140 : fr [37] [62, 66, 68, 69] m (kA m128 66 (up (m128.2.1 66) 23 (m20.2.1 66 23))) := fr_A hf136 66 _ rfl
        refine g_iload_n (n := 2) rfl rfl ?_
        refine g_iload (n := 4) rfl rfl ?_
        refine g_isub rfl ?_
        refine g_iret rfl rfl ?_
        have q3 : m20.2.1 66 = m.2.1 66 := (hc23.2.1 66 rfl).trans (hc11.2.1 66 rfl)
        have q4 : m128.2.1 66 = up (m20.2.1 66) 23 1 := hc131.2.1 66 rfl
        have q5 : (kA m128 66 (up (m128.2.1 66) 23 (m20.2.1 66 23))).2.1 66 = m.2.1 66 := by
          show up (m128.2.1 66) 23 (m20.2.1 66 23) = _
          funext j
          by_cases e : j = 23
          · rw [e, up_same, q3]
          · rw [up_ne _ e, q4, up_ne _ e, q3]
        have hDz : kD (kA m128 66 (up (m128.2.1 66) 23 (m20.2.1 66 23))) := by unfold kD; rw [q5, hf140.1 26 rfl]; exact h_kD
        exact ⟨_, _, rfl, hm139, hf140, by omega, by omega, q5, p134, hDz, kK_of (hf140.1 28 rfl) (hf140.2.1 63 rfl) (fun j hj => (p133 j (by omega)).trans ((p25 j (by omega)).trans (p13 j (by omega)))) h_kK⟩
      · refine g_aload_n (n := 0) rfl rfl ?_
        refine g_getf (v := vR 66) rfl (kl_61 _) rfl ?_
        refine g_iconst rfl ?_
        refine g_iload_n (n := 1) rfl rfl ?_
        refine g_imulE (z := 24) (by decide) rfl ?_
        refine g_iconst rfl ?_
        refine g_iaddE (z := 27) (by decide) rfl ?_
        have h141 : 0 ≤ m20.2.1 66 27 ∧ m20.2.1 66 27 ≤ 5 := hm22.2 66 27 (by decide) (show (27 : Int) < 40 by decide)
        have h142 : m20.2.1 66 27 = m8.2.1 66 27 := congrFun (hc23.2.1 66 rfl) _
        refine g_ialE (f := m20.2.1 66) (v := m20.2.1 66 27) rfl (kl_66 _) (by decide) (by decide) (by decide) rfl ?_
        refine g_istore_n (n := 3) (lo' := [(2, vI z19), (0, vR 61), (1, vI 6)]) rfl rfl ?_
        refine g_aload_n (n := 0) rfl rfl ?_
        refine g_getf (v := vR 66) rfl (kl_61 _) rfl ?_
        refine g_iconst rfl ?_
        refine g_iload_n (n := 1) rfl rfl ?_
        refine g_imulE (z := 24) (by decide) rfl ?_
        refine g_iconst rfl ?_
        refine g_iaddE (z := 27) (by decide) rfl ?_
        refine g_iconst rfl ?_
        refine g_iAst (f := m20.2.1 66) (m' := (kA m20 66 (up (m20.2.1 66) 27 1))) rfl (kl_66 _) (by decide) (by omega) (by omega) (kA_66 _ _) ?_
        have hm143 : kI (kA m20 66 (up (m20.2.1 66) 27 1)) := kI_U hm22 66 rfl (show (0 : Int) ≤ 1 by omega) (show 1 ≤ (5 : Int) by omega)
        have hf144 : fr [37] [62, 66, 68, 69] m (kA m20 66 (up (m20.2.1 66) 27 1)) := fr_A hf28 66 _ rfl
        have hD9 : kD (kA m20 66 (up (m20.2.1 66) 27 1)) := fun e x y => by show up (m20.2.1 66) 27 1 (4 * e) ≠ up (m20.2.1 66) 27 1 (4 * e + 1); rw [up_ne _ (by omega), up_ne _ (by omega)]; exact p27 e x y
        refine g_aload_n (n := 0) rfl rfl ?_
        refine g_iconst rfl ?_
        refine c_vI (i := 61) (ps := [vI 0]) (r := []) (as := [vR 61, vI 0]) (cs' := 0) (sl' := 0) rfl rfl rfl rfl rfl rfl (kl_61 _) (d_search (d := d - 1) (q := q - (4 + 19)) (by omega) (by omega) hm143 (v := 0) (show 0 ≤ 0 ∧ 0 ≤ 1 by omega) p26 hD9 (by show kv (m20.1 28) (kr5 (m20.2.1 62)); rw [hc23.1 28 rfl, hc11.1 28 rfl, kr5_eq (fun j a b => p25 j (by omega)), p12]; exact h_kK.1)) (by omega) (show 4 + 19 ≤ q by omega) (Nat.le_of_ble_eq_true rfl) (Nat.le_of_ble_eq_true rfl) rfl rfl rfl ?_
        rintro z145 m146 ⟨hm148, hc149, p150, p151, p152, p153⟩
        have hf154 : fr [37] [62, 66, 68, 69] m m146 := fr_tr hf144 (fr_le hc149 rfl rfl)
        have h155 : m146.1 26 = m20.1 26 := hc149.1 26 rfl
        have h156 : 0 ≤ m146.1 26 ∧ m146.1 26 ≤ 10 := hm148.1 26
        refine g_istore (n := 4) (lo' := [(3, vI (m20.2.1 66 27)), (2, vI z19), (0, vR 61), (1, vI 6)]) rfl rfl ?_
        refine g_aload_n (n := 0) rfl rfl ?_
        refine g_getf (v := vR 66) rfl (kl_61 _) rfl ?_
        refine g_iconst rfl ?_
        refine g_iload_n (n := 1) rfl rfl ?_
        refine g_imulE (z := 24) (by decide) rfl ?_
        refine g_iconst rfl ?_
        refine g_iaddE (z := 27) (by decide) rfl ?_
        refine g_iload_n (n := 3) rfl rfl ?_
        refine g_iAst (f := m146.2.1 66) (m' := (kA m146 66 (up (m146.2.1 66) 27 (m20.2.1 66 27)))) rfl (kl_66 _) (by decide) (by omega) (by omega) (kA_66 _ _) ?_
        have hm157 : kI (kA m146 66 (up (m146.2.1 66) 27 (m20.2.1 66 27))) := kI_U hm148 66 rfl (show (0 : Int) ≤ m20.2.1 66 27 by omega) (show m20.2.1 66 27 ≤ (5 : Int) by omega)
        have hf158 : fr [37] [62, 66, 68, 69] m (kA m146 66 (up (m146.2.1 66) 27 (m20.2.1 66 27))) := fr_A hf154 66 _ rfl
        refine g_iload_n (n := 2) rfl rfl ?_
        refine g_iload (n := 4) rfl rfl ?_
        refine g_isub rfl ?_
        refine g_iret rfl rfl ?_
        have q3 : m20.2.1 66 = m.2.1 66 := (hc23.2.1 66 rfl).trans (hc11.2.1 66 rfl)
        have q4 : m146.2.1 66 = up (m20.2.1 66) 27 1 := hc149.2.1 66 rfl
        have q5 : (kA m146 66 (up (m146.2.1 66) 27 (m20.2.1 66 27))).2.1 66 = m.2.1 66 := by
          show up (m146.2.1 66) 27 (m20.2.1 66 27) = _
          funext j
          by_cases e : j = 27
          · rw [e, up_same, q3]
          · rw [up_ne _ e, q4, up_ne _ e, q3]
        have hDz : kD (kA m146 66 (up (m146.2.1 66) 27 (m20.2.1 66 27))) := by unfold kD; rw [q5, hf158.1 26 rfl]; exact h_kD
        exact ⟨_, _, rfl, hm157, hf158, by omega, by omega, q5, p152, hDz, kK_of (hf158.1 28 rfl) (hf158.2.1 63 rfl) (fun j hj => (p151 j (by omega)).trans ((p25 j (by omega)).trans (p13 j (by omega)))) h_kK⟩
      · refine g_aload_n (n := 0) rfl rfl ?_
        refine g_getf (v := vR 66) rfl (kl_61 _) rfl ?_
        refine g_iconst rfl ?_
        refine g_iload_n (n := 1) rfl rfl ?_
        refine g_imulE (z := 28) (by decide) rfl ?_
        refine g_iconst rfl ?_
        refine g_iaddE (z := 31) (by decide) rfl ?_
        have h159 : 0 ≤ m20.2.1 66 31 ∧ m20.2.1 66 31 ≤ 5 := hm22.2 66 31 (by decide) (show (31 : Int) < 40 by decide)
        have h160 : m20.2.1 66 31 = m8.2.1 66 31 := congrFun (hc23.2.1 66 rfl) _
        refine g_ialE (f := m20.2.1 66) (v := m20.2.1 66 31) rfl (kl_66 _) (by decide) (by decide) (by decide) rfl ?_
        refine g_istore_n (n := 3) (lo' := [(2, vI z19), (0, vR 61), (1, vI 7)]) rfl rfl ?_
        refine g_aload_n (n := 0) rfl rfl ?_
        refine g_getf (v := vR 66) rfl (kl_61 _) rfl ?_
        refine g_iconst rfl ?_
        refine g_iload_n (n := 1) rfl rfl ?_
        refine g_imulE (z := 28) (by decide) rfl ?_
        refine g_iconst rfl ?_
        refine g_iaddE (z := 31) (by decide) rfl ?_
        refine g_iconst rfl ?_
        refine g_iAst (f := m20.2.1 66) (m' := (kA m20 66 (up (m20.2.1 66) 31 1))) rfl (kl_66 _) (by decide) (by omega) (by omega) (kA_66 _ _) ?_
        have hm161 : kI (kA m20 66 (up (m20.2.1 66) 31 1)) := kI_U hm22 66 rfl (show (0 : Int) ≤ 1 by omega) (show 1 ≤ (5 : Int) by omega)
        have hf162 : fr [37] [62, 66, 68, 69] m (kA m20 66 (up (m20.2.1 66) 31 1)) := fr_A hf28 66 _ rfl
        have hD9 : kD (kA m20 66 (up (m20.2.1 66) 31 1)) := fun e x y => by show up (m20.2.1 66) 31 1 (4 * e) ≠ up (m20.2.1 66) 31 1 (4 * e + 1); rw [up_ne _ (by omega), up_ne _ (by omega)]; exact p27 e x y
        refine g_aload_n (n := 0) rfl rfl ?_
        refine g_iconst rfl ?_
        refine c_vI (i := 61) (ps := [vI 0]) (r := []) (as := [vR 61, vI 0]) (cs' := 0) (sl' := 0) rfl rfl rfl rfl rfl rfl (kl_61 _) (d_search (d := d - 1) (q := q - (4 + 19)) (by omega) (by omega) hm161 (v := 0) (show 0 ≤ 0 ∧ 0 ≤ 1 by omega) p26 hD9 (by show kv (m20.1 28) (kr5 (m20.2.1 62)); rw [hc23.1 28 rfl, hc11.1 28 rfl, kr5_eq (fun j a b => p25 j (by omega)), p12]; exact h_kK.1)) (by omega) (show 4 + 19 ≤ q by omega) (Nat.le_of_ble_eq_true rfl) (Nat.le_of_ble_eq_true rfl) rfl rfl rfl ?_
        rintro z163 m164 ⟨hm166, hc167, p168, p169, p170, p171⟩
        have hf172 : fr [37] [62, 66, 68, 69] m m164 := fr_tr hf162 (fr_le hc167 rfl rfl)
        have h173 : m164.1 26 = m20.1 26 := hc167.1 26 rfl
        have h174 : 0 ≤ m164.1 26 ∧ m164.1 26 ≤ 10 := hm166.1 26
        refine g_istore (n := 4) (lo' := [(3, vI (m20.2.1 66 31)), (2, vI z19), (0, vR 61), (1, vI 7)]) rfl rfl ?_
        refine g_aload_n (n := 0) rfl rfl ?_
        refine g_getf (v := vR 66) rfl (kl_61 _) rfl ?_
        refine g_iconst rfl ?_
        refine g_iload_n (n := 1) rfl rfl ?_
        refine g_imulE (z := 28) (by decide) rfl ?_
        refine g_iconst rfl ?_
        refine g_iaddE (z := 31) (by decide) rfl ?_
        refine g_iload_n (n := 3) rfl rfl ?_
        refine g_iAst (f := m164.2.1 66) (m' := (kA m164 66 (up (m164.2.1 66) 31 (m20.2.1 66 31)))) rfl (kl_66 _) (by decide) (by omega) (by omega) (kA_66 _ _) ?_
        have hm175 : kI (kA m164 66 (up (m164.2.1 66) 31 (m20.2.1 66 31))) := kI_U hm166 66 rfl (show (0 : Int) ≤ m20.2.1 66 31 by omega) (show m20.2.1 66 31 ≤ (5 : Int) by omega)
        have hf176 : fr [37] [62, 66, 68, 69] m (kA m164 66 (up (m164.2.1 66) 31 (m20.2.1 66 31))) := fr_A hf172 66 _ rfl
        refine g_iload_n (n := 2) rfl rfl ?_
        refine g_iload (n := 4) rfl rfl ?_
        refine g_isub rfl ?_
        refine g_iret rfl rfl ?_
        have q3 : m20.2.1 66 = m.2.1 66 := (hc23.2.1 66 rfl).trans (hc11.2.1 66 rfl)
        have q4 : m164.2.1 66 = up (m20.2.1 66) 31 1 := hc167.2.1 66 rfl
        have q5 : (kA m164 66 (up (m164.2.1 66) 31 (m20.2.1 66 31))).2.1 66 = m.2.1 66 := by
          show up (m164.2.1 66) 31 (m20.2.1 66 31) = _
          funext j
          by_cases e : j = 31
          · rw [e, up_same, q3]
          · rw [up_ne _ e, q4, up_ne _ e, q3]
        have hDz : kD (kA m164 66 (up (m164.2.1 66) 31 (m20.2.1 66 31))) := by unfold kD; rw [q5, hf176.1 26 rfl]; exact h_kD
        exact ⟨_, _, rfl, hm175, hf176, by omega, by omega, q5, p170, hDz, kK_of (hf176.1 28 rfl) (hf176.2.1 63 rfl) (fun j hj => (p169 j (by omega)).trans ((p25 j (by omega)).trans (p13 j (by omega)))) h_kK⟩
      · refine g_aload_n (n := 0) rfl rfl ?_
        refine g_getf (v := vR 66) rfl (kl_61 _) rfl ?_
        refine g_iconst rfl ?_
        refine g_iload_n (n := 1) rfl rfl ?_
        refine g_imulE (z := 32) (by decide) rfl ?_
        refine g_iconst rfl ?_
        refine g_iaddE (z := 35) (by decide) rfl ?_
        have h177 : 0 ≤ m20.2.1 66 35 ∧ m20.2.1 66 35 ≤ 5 := hm22.2 66 35 (by decide) (show (35 : Int) < 40 by decide)
        have h178 : m20.2.1 66 35 = m8.2.1 66 35 := congrFun (hc23.2.1 66 rfl) _
        refine g_ialE (f := m20.2.1 66) (v := m20.2.1 66 35) rfl (kl_66 _) (by decide) (by decide) (by decide) rfl ?_
        refine g_istore_n (n := 3) (lo' := [(2, vI z19), (0, vR 61), (1, vI 8)]) rfl rfl ?_
        refine g_aload_n (n := 0) rfl rfl ?_
        refine g_getf (v := vR 66) rfl (kl_61 _) rfl ?_
        refine g_iconst rfl ?_
        refine g_iload_n (n := 1) rfl rfl ?_
        refine g_imulE (z := 32) (by decide) rfl ?_
        refine g_iconst rfl ?_
        refine g_iaddE (z := 35) (by decide) rfl ?_
        refine g_iconst rfl ?_
        refine g_iAst (f := m20.2.1 66) (m' := (kA m20 66 (up (m20.2.1 66) 35 1))) rfl (kl_66 _) (by decide) (by omega) (by omega) (kA_66 _ _) ?_
        have hm179 : kI (kA m20 66 (up (m20.2.1 66) 35 1)) := kI_U hm22 66 rfl (show (0 : Int) ≤ 1 by omega) (show 1 ≤ (5 : Int) by omega)
        have hf180 : fr [37] [62, 66, 68, 69] m (kA m20 66 (up (m20.2.1 66) 35 1)) := fr_A hf28 66 _ rfl
        have hD9 : kD (kA m20 66 (up (m20.2.1 66) 35 1)) := fun e x y => by show up (m20.2.1 66) 35 1 (4 * e) ≠ up (m20.2.1 66) 35 1 (4 * e + 1); rw [up_ne _ (by omega), up_ne _ (by omega)]; exact p27 e x y
        refine g_aload_n (n := 0) rfl rfl ?_
        refine g_iconst rfl ?_
        refine c_vI (i := 61) (ps := [vI 0]) (r := []) (as := [vR 61, vI 0]) (cs' := 0) (sl' := 0) rfl rfl rfl rfl rfl rfl (kl_61 _) (d_search (d := d - 1) (q := q - (4 + 19)) (by omega) (by omega) hm179 (v := 0) (show 0 ≤ 0 ∧ 0 ≤ 1 by omega) p26 hD9 (by show kv (m20.1 28) (kr5 (m20.2.1 62)); rw [hc23.1 28 rfl, hc11.1 28 rfl, kr5_eq (fun j a b => p25 j (by omega)), p12]; exact h_kK.1)) (by omega) (show 4 + 19 ≤ q by omega) (Nat.le_of_ble_eq_true rfl) (Nat.le_of_ble_eq_true rfl) rfl rfl rfl ?_
        rintro z181 m182 ⟨hm184, hc185, p186, p187, p188, p189⟩
        have hf190 : fr [37] [62, 66, 68, 69] m m182 := fr_tr hf180 (fr_le hc185 rfl rfl)
        have h191 : m182.1 26 = m20.1 26 := hc185.1 26 rfl
        have h192 : 0 ≤ m182.1 26 ∧ m182.1 26 ≤ 10 := hm184.1 26
        refine g_istore (n := 4) (lo' := [(3, vI (m20.2.1 66 35)), (2, vI z19), (0, vR 61), (1, vI 8)]) rfl rfl ?_
        refine g_aload_n (n := 0) rfl rfl ?_
        refine g_getf (v := vR 66) rfl (kl_61 _) rfl ?_
        refine g_iconst rfl ?_
        refine g_iload_n (n := 1) rfl rfl ?_
        refine g_imulE (z := 32) (by decide) rfl ?_
        refine g_iconst rfl ?_
        refine g_iaddE (z := 35) (by decide) rfl ?_
        refine g_iload_n (n := 3) rfl rfl ?_
        refine g_iAst (f := m182.2.1 66) (m' := (kA m182 66 (up (m182.2.1 66) 35 (m20.2.1 66 35)))) rfl (kl_66 _) (by decide) (by omega) (by omega) (kA_66 _ _) ?_
        have hm193 : kI (kA m182 66 (up (m182.2.1 66) 35 (m20.2.1 66 35))) := kI_U hm184 66 rfl (show (0 : Int) ≤ m20.2.1 66 35 by omega) (show m20.2.1 66 35 ≤ (5 : Int) by omega)
        have hf194 : fr [37] [62, 66, 68, 69] m (kA m182 66 (up (m182.2.1 66) 35 (m20.2.1 66 35))) := fr_A hf190 66 _ rfl
        refine g_iload_n (n := 2) rfl rfl ?_
        refine g_iload (n := 4) rfl rfl ?_
        refine g_isub rfl ?_
        refine g_iret rfl rfl ?_
        have q3 : m20.2.1 66 = m.2.1 66 := (hc23.2.1 66 rfl).trans (hc11.2.1 66 rfl)
        have q4 : m182.2.1 66 = up (m20.2.1 66) 35 1 := hc185.2.1 66 rfl
        have q5 : (kA m182 66 (up (m182.2.1 66) 35 (m20.2.1 66 35))).2.1 66 = m.2.1 66 := by
          show up (m182.2.1 66) 35 (m20.2.1 66 35) = _
          funext j
          by_cases e : j = 35
          · rw [e, up_same, q3]
          · rw [up_ne _ e, q4, up_ne _ e, q3]
        have hDz : kD (kA m182 66 (up (m182.2.1 66) 35 (m20.2.1 66 35))) := by unfold kD; rw [q5, hf194.1 26 rfl]; exact h_kD
        exact ⟨_, _, rfl, hm193, hf194, by omega, by omega, q5, p188, hDz, kK_of (hf194.1 28 rfl) (hf194.2.1 63 rfl) (fun j hj => (p187 j (by omega)).trans ((p25 j (by omega)).trans (p13 j (by omega)))) h_kK⟩
      · refine g_aload_n (n := 0) rfl rfl ?_
        refine g_getf (v := vR 66) rfl (kl_61 _) rfl ?_
        refine g_iconst rfl ?_
        refine g_iload_n (n := 1) rfl rfl ?_
        refine g_imulE (z := 36) (by decide) rfl ?_
        refine g_iconst rfl ?_
        refine g_iaddE (z := 39) (by decide) rfl ?_
        have h195 : 0 ≤ m20.2.1 66 39 ∧ m20.2.1 66 39 ≤ 5 := hm22.2 66 39 (by decide) (show (39 : Int) < 40 by decide)
        have h196 : m20.2.1 66 39 = m8.2.1 66 39 := congrFun (hc23.2.1 66 rfl) _
        refine g_ialE (f := m20.2.1 66) (v := m20.2.1 66 39) rfl (kl_66 _) (by decide) (by decide) (by decide) rfl ?_
        refine g_istore_n (n := 3) (lo' := [(2, vI z19), (0, vR 61), (1, vI 9)]) rfl rfl ?_
        refine g_aload_n (n := 0) rfl rfl ?_
        refine g_getf (v := vR 66) rfl (kl_61 _) rfl ?_
        refine g_iconst rfl ?_
        refine g_iload_n (n := 1) rfl rfl ?_
        refine g_imulE (z := 36) (by decide) rfl ?_
        refine g_iconst rfl ?_
        refine g_iaddE (z := 39) (by decide) rfl ?_
        refine g_iconst rfl ?_
        refine g_iAst (f := m20.2.1 66) (m' := (kA m20 66 (up (m20.2.1 66) 39 1))) rfl (kl_66 _) (by decide) (by omega) (by omega) (kA_66 _ _) ?_
        have hm197 : kI (kA m20 66 (up (m20.2.1 66) 39 1)) := kI_U hm22 66 rfl (show (0 : Int) ≤ 1 by omega) (show 1 ≤ (5 : Int) by omega)
        have hf198 : fr [37] [62, 66, 68, 69] m (kA m20 66 (up (m20.2.1 66) 39 1)) := fr_A hf28 66 _ rfl
        have hD9 : kD (kA m20 66 (up (m20.2.1 66) 39 1)) := fun e x y => by show up (m20.2.1 66) 39 1 (4 * e) ≠ up (m20.2.1 66) 39 1 (4 * e + 1); rw [up_ne _ (by omega), up_ne _ (by omega)]; exact p27 e x y
        refine g_aload_n (n := 0) rfl rfl ?_
        refine g_iconst rfl ?_
        refine c_vI (i := 61) (ps := [vI 0]) (r := []) (as := [vR 61, vI 0]) (cs' := 0) (sl' := 0) rfl rfl rfl rfl rfl rfl (kl_61 _) (d_search (d := d - 1) (q := q - (4 + 19)) (by omega) (by omega) hm197 (v := 0) (show 0 ≤ 0 ∧ 0 ≤ 1 by omega) p26 hD9 (by show kv (m20.1 28) (kr5 (m20.2.1 62)); rw [hc23.1 28 rfl, hc11.1 28 rfl, kr5_eq (fun j a b => p25 j (by omega)), p12]; exact h_kK.1)) (by omega) (show 4 + 19 ≤ q by omega) (Nat.le_of_ble_eq_true rfl) (Nat.le_of_ble_eq_true rfl) rfl rfl rfl ?_
        rintro z199 m200 ⟨hm202, hc203, p204, p205, p206, p207⟩
        have hf208 : fr [37] [62, 66, 68, 69] m m200 := fr_tr hf198 (fr_le hc203 rfl rfl)
        have h209 : m200.1 26 = m20.1 26 := hc203.1 26 rfl
        have h210 : 0 ≤ m200.1 26 ∧ m200.1 26 ≤ 10 := hm202.1 26
        refine g_istore (n := 4) (lo' := [(3, vI (m20.2.1 66 39)), (2, vI z19), (0, vR 61), (1, vI 9)]) rfl rfl ?_
        refine g_aload_n (n := 0) rfl rfl ?_
        refine g_getf (v := vR 66) rfl (kl_61 _) rfl ?_
        refine g_iconst rfl ?_
        refine g_iload_n (n := 1) rfl rfl ?_
        refine g_imulE (z := 36) (by decide) rfl ?_
        refine g_iconst rfl ?_
        refine g_iaddE (z := 39) (by decide) rfl ?_
        refine g_iload_n (n := 3) rfl rfl ?_
        refine g_iAst (f := m200.2.1 66) (m' := (kA m200 66 (up (m200.2.1 66) 39 (m20.2.1 66 39)))) rfl (kl_66 _) (by decide) (by omega) (by omega) (kA_66 _ _) ?_
        have hm211 : kI (kA m200 66 (up (m200.2.1 66) 39 (m20.2.1 66 39))) := kI_U hm202 66 rfl (show (0 : Int) ≤ m20.2.1 66 39 by omega) (show m20.2.1 66 39 ≤ (5 : Int) by omega)
        have hf212 : fr [37] [62, 66, 68, 69] m (kA m200 66 (up (m200.2.1 66) 39 (m20.2.1 66 39))) := fr_A hf208 66 _ rfl
        refine g_iload_n (n := 2) rfl rfl ?_
        refine g_iload (n := 4) rfl rfl ?_
        refine g_isub rfl ?_
        refine g_iret rfl rfl ?_
        have q3 : m20.2.1 66 = m.2.1 66 := (hc23.2.1 66 rfl).trans (hc11.2.1 66 rfl)
        have q4 : m200.2.1 66 = up (m20.2.1 66) 39 1 := hc203.2.1 66 rfl
        have q5 : (kA m200 66 (up (m200.2.1 66) 39 (m20.2.1 66 39))).2.1 66 = m.2.1 66 := by
          show up (m200.2.1 66) 39 (m20.2.1 66 39) = _
          funext j
          by_cases e : j = 39
          · rw [e, up_same, q3]
          · rw [up_ne _ e, q4, up_ne _ e, q3]
        have hDz : kD (kA m200 66 (up (m200.2.1 66) 39 (m20.2.1 66 39))) := by unfold kD; rw [q5, hf212.1 26 rfl]; exact h_kD
        exact ⟨_, _, rfl, hm211, hf212, by omega, by omega, q5, p206, hDz, kK_of (hf212.1 28 rfl) (hf212.2.1 63 rfl) (fun j hj => (p205 j (by omega)).trans ((p25 j (by omega)).trans (p13 j (by omega)))) h_kK⟩
    · intro kk213
      refine g_bipush (by decide) rfl ?_
      refine g_iret rfl rfl ?_
      exact ⟨_, _, rfl, hm22, hf28, by omega, by omega, (hc23.2.1 66 rfl).trans (hc11.2.1 66 rfl), p26, p27, kK_of (hf28.1 28 rfl) (hf28.2.1 63 rfl) (fun j hj => (p25 j (by omega)).trans (p13 j (by omega))) h_kK⟩
  · intro kk214
    refine g_bipush (by decide) rfl ?_
    refine g_iret rfl rfl ?_
    exact ⟨_, _, rfl, hm, hf0, by omega, by omega, rfl, h_k4, h_kD, h_kK⟩
theorem d_stuck {V : cg_V} {d q : Nat} (hd : 6 ≤ d) (hq : 147 ≤ q) {m : kM} (hm : kI m) (h_k4 : k4 m) (h_kD : kD m) (h_kK : kK m) : cg_S V d q mX10_stuck [vR 61] (kl m) (R_I (fun z m' => (kI m') ∧ (fr [37] [62, 68, 69, 70, 71] m m') ∧ (-1 ≤ z) ∧ (z ≤ 400) ∧ (k4 m') ∧ (kD m') ∧ (kK m'))) := by
  have hf0 : fr [37] [62, 68, 69, 70, 71] m m := fr_rf m
  refine cg_of (List.mem_of_getElem? (show ae_MT[173]? = some mX10_stuck from rfl)) (Nat.le_of_ble_eq_true rfl) ?_
  show cg_G V mX10_stuck d q _ 0 [(0, vR 61)] [] (kl m) 0 0
  refine g_aload_n (n := 0) rfl rfl ?_
  refine g_iconst rfl ?_
  refine g_iconst rfl ?_
  refine c_vV (i := 61) (ps := [vI 5, vI 0]) (r := []) (as := [vR 61, vI 0, vI 5]) (cs' := 0) (sl' := 0) rfl rfl rfl rfl rfl rfl (kl_61 _) (d_copy_0_5 (d := d - 1) (q := q - (4 + 19)) (by omega) (by omega) hm  ) (by omega) (show 4 + 19 ≤ q by omega) (Nat.le_of_ble_eq_true rfl) (Nat.le_of_ble_eq_true rfl) rfl rfl rfl ?_
  rintro m2 ⟨hm4, hc5, p6, p7⟩
  have hf8 : fr [37] [62, 68, 69, 70, 71] m m2 := fr_tr hf0 (fr_le hc5 rfl rfl)
  have t9 : k4 m2 := k4_fr hc5 rfl rfl h_k4
  have t10 : kD m2 := kD_fr hc5 rfl rfl h_kD
  refine g_aload_n (n := 0) rfl rfl ?_
  refine g_iconst rfl ?_
  refine c_vI (i := 61) (ps := [vI 0]) (r := []) (as := [vR 61, vI 0]) (cs' := 0) (sl' := 0) rfl rfl rfl rfl rfl rfl (kl_61 _) (d_search (d := d - 1) (q := q - (4 + 19)) (by omega) (by omega) hm4 (v := 0) (show 0 ≤ 0 ∧ 0 ≤ 1 by omega) t9 t10 (by rw [hc5.1 28 rfl, p6]; exact h_kK.1)) (by omega) (show 4 + 19 ≤ q by omega) (Nat.le_of_ble_eq_true rfl) (Nat.le_of_ble_eq_true rfl) rfl rfl rfl ?_
  rintro z11 m12 ⟨hm14, hc15, p16, p17, p18, p19⟩
  have hf20 : fr [37] [62, 68, 69, 70, 71] m m12 := fr_tr hf8 (fr_le hc15 rfl rfl)
  refine g_istore_n (n := 1) (lo' := [(0, vR 61)]) rfl rfl ?_
  refine g_iload_n (n := 1) rfl rfl ?_
  refine g_iconst rfl ?_
  refine g_icmp_ne (by omega) (by omega) (by decide) (by decide) rfl ?_ ?_
  · intro kk21
    refine g_aload_n (n := 0) rfl rfl ?_
    refine g_iload_n (n := 1) rfl rfl ?_
    refine g_iconst rfl ?_
    refine c_vV (i := 61) (ps := [vI 0, vI z11]) (r := []) (as := [vR 61, vI z11, vI 0]) (cs' := 0) (sl' := 0) rfl rfl rfl rfl rfl rfl (kl_61 _) (d_layActs (d := d - 1) (q := q - (5 + 19)) (by omega) (by omega) hm14 (a := z11) (v := 0) (show 0 ≤ z11 ∧ z11 ≤ 400 by omega) (show 0 ≤ 0 ∧ 0 ≤ 1 by omega) p18 p19 (by rw [kr5_eq (fun j a b => p17 j (by omega)), p6]; exact h_kK.1.1)) (by omega) (show 5 + 19 ≤ q by omega) (Nat.le_of_ble_eq_true rfl) (Nat.le_of_ble_eq_true rfl) rfl rfl rfl ?_
    rintro m23 ⟨hm25, hc26, p27⟩
    have hf28 : fr [37] [62, 68, 69, 70, 71] m m23 := fr_tr hf20 (fr_le hc26 rfl rfl)
    have t29 : k4 m23 := k4_fr hc26 rfl rfl p18
    have t30 : kD m23 := kD_fr hc26 rfl rfl p19
    refine g_iconst rfl ?_
    refine g_istore_n (n := 2) (lo' := [(1, vI z11), (0, vR 61)]) rfl rfl ?_
    refine g_iconst rfl ?_
    refine g_istore_n (n := 3) (lo' := [(2, vI 0), (1, vI z11), (0, vR 61)]) rfl rfl ?_
    have L29_1 : ∀ (n29_1 : Nat) (s_1 : Int) (i_1 : Int), (0 ≤ s_1 ∧ s_1 ≤ 400) → (0 ≤ i_1 ∧ i_1 ≤ 400) → (s_1 ≤ i_1) → ((400 - i_1).toNat) = n29_1 → cg_G V mX10_stuck d q (R_I (fun z m' => (kI m') ∧ (fr [37] [62, 68, 69, 70, 71] m m') ∧ (-1 ≤ z) ∧ (z ≤ 400) ∧ (k4 m') ∧ (kD m') ∧ (kK m'))) 29 [(3, vI i_1), (2, vI s_1), (1, vI z11), (0, vR 61)] [] (kl m23) 0 0 := by
      intro n29_1
      induction n29_1 using Nat.strongRecOn with
      | _ n29_1 ih29_1 =>
        intro s_1 i_1 i31 i32 i33 q34
        refine g_iload_n (n := 3) rfl rfl ?_
        refine g_iload_n (n := 1) rfl rfl ?_
        refine g_icmp_ge (by omega) (by omega) (by omega) (by omega) rfl ?_ ?_
        · intro kk35
          refine g_iload_n (n := 2) rfl rfl ?_
          refine g_iret rfl rfl ?_
          exact ⟨_, _, rfl, hm25, hf28, by omega, by omega, t29, t30, (kK_of (hf28.1 28 rfl) (hf28.2.1 63 rfl) (fun j hj => (p27 j (by omega)).trans ((p17 j (by omega)).trans (p7 j (by omega)))) h_kK)⟩
        · intro kk36
          refine g_aload_n (n := 0) rfl rfl ?_
          refine g_getf (v := vR 71) rfl (kl_61 _) rfl ?_
          refine g_iload_n (n := 3) rfl rfl ?_
          have h37 : (-1) ≤ m23.2.1 71 i_1 ∧ m23.2.1 71 i_1 ≤ 99 := hm25.2 71 i_1 (by omega) (show i_1 < (400 : Int) by omega)
          refine g_iald (f := m23.2.1 71) rfl (kl_71 _) (by decide) (by omega) (by omega) ?_
          refine g_bipush (by decide) rfl ?_
          refine g_iremC (by omega) (by omega) (by decide) (by decide) rfl ?_
          intro z38 h39
          refine g_istore (n := 4) (lo' := [(3, vI i_1), (2, vI s_1), (1, vI z11), (0, vR 61)]) rfl rfl ?_
          refine g_iload_n (n := 2) rfl rfl ?_
          refine g_iload (n := 4) rfl rfl ?_
          refine g_i2l (by omega) (by omega) rfl ?_
          refine g_ldc2 (x := 14) (by decide) rfl ?_
          refine g_ldc2 (x := 23) (by decide) rfl ?_
          refine c_sI (ps := [vL 23, vL 14, vL z38]) (r := [vI s_1]) (as := [vL z38, vL 14, vL 23]) (cs' := 0) (sl' := 0) rfl rfl rfl rfl rfl rfl (d_in (d := d - 1) (q := q - (6 + 19)) (by omega) (by omega) hm25 (a := z38) (b := 14) (c := 23) (show (-9223372036854775808) ≤ z38 ∧ z38 ≤ 9223372036854775807 by omega) (show (-9223372036854775808) ≤ 14 ∧ 14 ≤ 9223372036854775807 by omega) (show (-9223372036854775808) ≤ 23 ∧ 23 ≤ 9223372036854775807 by omega)) (by omega) (show 6 + 19 ≤ q by omega) (Nat.le_of_ble_eq_true rfl) (Nat.le_of_ble_eq_true rfl) rfl rfl rfl ?_
          rintro z40 m41 ⟨rfl, p43⟩
          refine g_if_eq (by omega) (by omega) rfl ?_ ?_
          · intro kk44
            refine g_iconst rfl ?_
            refine g_iadd rfl ?_
            refine g_istore_n (n := 2) (lo' := [(4, vI z38), (3, vI i_1), (1, vI z11), (0, vR 61)]) rfl rfl ?_
            refine g_iinc (n := 3) (lo' := [(2, vI (s_1 + 0)), (4, vI z38), (1, vI z11), (0, vR 61)]) rfl rfl rfl ?_
            refine g_goto rfl ?_
            refine g_pick (lo' := [(3, vI (i_1 + 1)), (2, vI (s_1 + 0)), (1, vI z11), (0, vR 61)]) [0, 1, 3, 4] rfl ?_
            exact ih29_1 _ (by omega) (s_1 + 0) (i_1 + 1) (by omega) (by omega) (by omega) rfl
          · intro kk45
            refine g_aload_n (n := 0) rfl rfl ?_
            refine g_getf (v := vR 66) rfl (kl_61 _) rfl ?_
            refine g_iconst rfl ?_
            refine g_iload (n := 4) rfl rfl ?_
            refine g_bipush (by decide) rfl ?_
            refine g_isub rfl ?_
            refine g_imul rfl ?_
            refine g_iconst rfl ?_
            refine g_iadd rfl ?_
            have h46 : 0 ≤ m23.2.1 66 ((4 * (z38 - 14)) + 2) ∧ m23.2.1 66 ((4 * (z38 - 14)) + 2) ≤ 5 := hm25.2 66 ((4 * (z38 - 14)) + 2) (by omega) (show ((4 * (z38 - 14)) + 2) < (40 : Int) by omega)
            have h47 : m23.2.1 66 ((4 * (z38 - 14)) + 2) = m12.2.1 66 ((4 * (z38 - 14)) + 2) := congrFun (hc26.2.1 66 rfl) _
            refine g_iald (f := m23.2.1 66) rfl (kl_66 _) (by decide) (by omega) (by omega) ?_
            refine g_iconst rfl ?_
            refine g_icmp_ne (by omega) (by omega) (by decide) (by decide) rfl ?_ ?_
            · intro kk48
              refine g_iconst rfl ?_
              refine g_iadd rfl ?_
              refine g_istore_n (n := 2) (lo' := [(4, vI z38), (3, vI i_1), (1, vI z11), (0, vR 61)]) rfl rfl ?_
              refine g_iinc (n := 3) (lo' := [(2, vI (s_1 + 0)), (4, vI z38), (1, vI z11), (0, vR 61)]) rfl rfl rfl ?_
              refine g_goto rfl ?_
              refine g_pick (lo' := [(3, vI (i_1 + 1)), (2, vI (s_1 + 0)), (1, vI z11), (0, vR 61)]) [0, 1, 3, 4] rfl ?_
              exact ih29_1 _ (by omega) (s_1 + 0) (i_1 + 1) (by omega) (by omega) (by omega) rfl
            · intro kk49
              refine g_iconst rfl ?_
              refine g_goto rfl ?_
              refine g_iadd rfl ?_
              refine g_istore_n (n := 2) (lo' := [(4, vI z38), (3, vI i_1), (1, vI z11), (0, vR 61)]) rfl rfl ?_
              refine g_iinc (n := 3) (lo' := [(2, vI (s_1 + 1)), (4, vI z38), (1, vI z11), (0, vR 61)]) rfl rfl rfl ?_
              refine g_goto rfl ?_
              refine g_pick (lo' := [(3, vI (i_1 + 1)), (2, vI (s_1 + 1)), (1, vI z11), (0, vR 61)]) [0, 1, 3, 4] rfl ?_
              exact ih29_1 _ (by omega) (s_1 + 1) (i_1 + 1) (by omega) (by omega) (by omega) rfl
    exact L29_1 _ 0 0 (by omega) (by omega) (by omega) rfl
  · intro kk50
    refine g_iconst rfl ?_
    refine g_iret rfl rfl ?_
    exact ⟨_, _, rfl, hm14, hf20, by omega, by omega, p18, p19, (kK_of (hf20.1 28 rfl) (hf20.2.1 63 rfl) (fun j hj => (p17 j (by omega)).trans (p7 j (by omega))) h_kK)⟩
theorem d_odds {V : cg_V} {d q : Nat} (hd : 7 ≤ d) (hq : 171 ≤ q) {m : kM} (hm : kI m) {p e w : Int} (h_p : (-2147483648) ≤ p ∧ p ≤ 2147483647) (h_e : (-2147483648) ≤ e ∧ e ≤ 2147483647) (h_w : (-2147483648) ≤ w ∧ w ≤ 2147483647) (h_k4 : k4 m) (h_kD : kD m) (h_kK : kK m) : cg_S V d q mX10_odds [vR 61, vI p, vI e, vI w] (kl m) (R_J (fun z m' => (kI m') ∧ (fr [37] [62, 68, 69, 70, 71] m m') ∧ (-9223372036854775808 ≤ z) ∧ (z < 9223372036854775808) ∧ (k4 m') ∧ (kD m') ∧ (kK m'))) := by
  have hf0 : fr [37] [62, 68, 69, 70, 71] m m := fr_rf m
  refine cg_of (List.mem_of_getElem? (show ae_MT[174]? = some mX10_odds from rfl)) (Nat.le_of_ble_eq_true rfl) ?_
  show cg_G V mX10_odds d q _ 0 [(0, vR 61), (1, vI p), (2, vI e), (3, vI w)] [] (kl m) 0 0
  refine g_iload_n (n := 1) rfl rfl ?_
  refine g_i2l (by omega) (by omega) rfl ?_
  refine g_lconst (x := 0) (by decide) rfl ?_
  refine g_ldc2 (x := 10) (by decide) rfl ?_
  refine c_sI (ps := [vL 10, vL 0, vL p]) (r := []) (as := [vL p, vL 0, vL 10]) (cs' := 0) (sl' := 0) rfl rfl rfl rfl rfl rfl (d_in (d := d - 1) (q := q - (6 + 19)) (by omega) (by omega) hm (a := p) (b := 0) (c := 10) (show (-9223372036854775808) ≤ p ∧ p ≤ 9223372036854775807 by omega) (show (-9223372036854775808) ≤ 0 ∧ 0 ≤ 9223372036854775807 by omega) (show (-9223372036854775808) ≤ 10 ∧ 10 ≤ 9223372036854775807 by omega)) (by omega) (show 6 + 19 ≤ q by omega) (Nat.le_of_ble_eq_true rfl) (Nat.le_of_ble_eq_true rfl) rfl rfl rfl ?_
  rintro z1 m2 ⟨rfl, p4⟩
  refine g_if_eq (by omega) (by omega) rfl ?_ ?_
  · intro kk5
    refine g_ldc2 (x := (-3)) (by decide) rfl ?_
    refine g_lret rfl rfl ?_
    exact ⟨_, _, rfl, hm, hf0, by omega, by omega, h_k4, h_kD, h_kK⟩
  · intro kk6
    refine g_iload_n (n := 2) rfl rfl ?_
    refine g_i2l (by omega) (by omega) rfl ?_
    refine g_lconst (x := 0) (by decide) rfl ?_
    refine g_ldc2 (x := 6) (by decide) rfl ?_
    refine c_sI (ps := [vL 6, vL 0, vL e]) (r := []) (as := [vL e, vL 0, vL 6]) (cs' := 0) (sl' := 0) rfl rfl rfl rfl rfl rfl (d_in (d := d - 1) (q := q - (6 + 19)) (by omega) (by omega) hm (a := e) (b := 0) (c := 6) (show (-9223372036854775808) ≤ e ∧ e ≤ 9223372036854775807 by omega) (show (-9223372036854775808) ≤ 0 ∧ 0 ≤ 9223372036854775807 by omega) (show (-9223372036854775808) ≤ 6 ∧ 6 ≤ 9223372036854775807 by omega)) (by omega) (show 6 + 19 ≤ q by omega) (Nat.le_of_ble_eq_true rfl) (Nat.le_of_ble_eq_true rfl) rfl rfl rfl ?_
    rintro z7 m8 ⟨rfl, p10⟩
    refine g_if_eq (by omega) (by omega) rfl ?_ ?_
    · intro kk11
      refine g_ldc2 (x := (-3)) (by decide) rfl ?_
      refine g_lret rfl rfl ?_
      exact ⟨_, _, rfl, hm, hf0, by omega, by omega, h_k4, h_kD, h_kK⟩
    · intro kk12
      refine g_iload_n (n := 3) rfl rfl ?_
      refine g_i2l (by omega) (by omega) rfl ?_
      refine g_lconst (x := 0) (by decide) rfl ?_
      refine g_lconst (x := 1) (by decide) rfl ?_
      refine c_sI (ps := [vL 1, vL 0, vL w]) (r := []) (as := [vL w, vL 0, vL 1]) (cs' := 0) (sl' := 0) rfl rfl rfl rfl rfl rfl (d_in (d := d - 1) (q := q - (6 + 19)) (by omega) (by omega) hm (a := w) (b := 0) (c := 1) (show (-9223372036854775808) ≤ w ∧ w ≤ 9223372036854775807 by omega) (show (-9223372036854775808) ≤ 0 ∧ 0 ≤ 9223372036854775807 by omega) (show (-9223372036854775808) ≤ 1 ∧ 1 ≤ 9223372036854775807 by omega)) (by omega) (show 6 + 19 ≤ q by omega) (Nat.le_of_ble_eq_true rfl) (Nat.le_of_ble_eq_true rfl) rfl rfl rfl ?_
      rintro z13 m14 ⟨rfl, p16⟩
      refine g_if_ne (by omega) (by omega) rfl ?_ ?_
      · intro kk17
        refine g_aload_n (n := 0) rfl rfl ?_
        refine c_vI (i := 61) (ps := []) (r := []) (as := [vR 61]) (cs' := 0) (sl' := 0) rfl rfl rfl rfl rfl rfl (kl_61 _) (d_stuck (d := d - 1) (q := q - (5 + 19)) (by omega) (by omega) hm  h_k4 h_kD h_kK) (by omega) (show 5 + 19 ≤ q by omega) (Nat.le_of_ble_eq_true rfl) (Nat.le_of_ble_eq_true rfl) rfl rfl rfl ?_
        rintro z18 m19 ⟨hm21, hc22, p23, p24, p25, p26, p27⟩
        have hf28 : fr [37] [62, 68, 69, 70, 71] m m19 := fr_tr hf0 (fr_le hc22 rfl rfl)
        refine g_istore (n := 4) (lo' := [(0, vR 61), (1, vI p), (2, vI e), (3, vI w)]) rfl rfl ?_
        refine g_iload (n := 4) rfl rfl ?_
        refine g_iconst rfl ?_
        refine g_icmp_eq (by omega) (by omega) (by decide) (by decide) rfl ?_ ?_
        · intro kk29
          refine g_ldc2 (x := (-4)) (by decide) rfl ?_
          refine g_lret rfl rfl ?_
          exact ⟨_, _, rfl, hm21, hf28, by omega, by omega, p25, p26, p27⟩
        · intro kk30
          refine g_iload (n := 4) rfl rfl ?_
          refine g_bipush (by decide) rfl ?_
          refine g_icmp_le (by omega) (by omega) (by decide) (by decide) rfl ?_ ?_
          · intro kk31
            refine g_lconst (x := 1) (by decide) rfl ?_
            refine g_lstore (n := 5) (lo' := [(4, vI z18), (0, vR 61), (1, vI p), (2, vI e), (3, vI w)]) rfl rfl ?_
            refine g_lconst (x := 0) (by decide) rfl ?_
            refine g_lstore (n := 7) (lo' := [(5, vL 1), (4, vI z18), (0, vR 61), (1, vI p), (2, vI e), (3, vI w)]) rfl rfl ?_
            refine g_iconst rfl ?_
            refine g_istore (n := 9) (lo' := [(7, vL 0), (5, vL 1), (4, vI z18), (0, vR 61), (1, vI p), (2, vI e), (3, vI w)]) rfl rfl ?_
            have L70_1 : ∀ (n70_1 : Nat) (w_1 : Int) (s_1 : Int) (j_1 : Int), ((-9223372036854775808) ≤ w_1 ∧ w_1 ≤ 9223372036854775807) → ((-9223372036854775808) ≤ s_1 ∧ s_1 ≤ 9223372036854775807) → (0 ≤ j_1 ∧ j_1 ≤ 7) → ((7 - j_1).toNat) = n70_1 → cg_G V mX10_odds d q (R_J (fun z m' => (kI m') ∧ (fr [37] [62, 68, 69, 70, 71] m m') ∧ (-9223372036854775808 ≤ z) ∧ (z < 9223372036854775808) ∧ (k4 m') ∧ (kD m') ∧ (kK m'))) 70 [(9, vI j_1), (7, vL s_1), (5, vL w_1), (4, vI z18), (0, vR 61), (1, vI p), (2, vI e), (3, vI w)] [] (kl m19) 0 0 := by
              intro n70_1
              induction n70_1 using Nat.strongRecOn with
              | _ n70_1 ih70_1 =>
                intro w_1 s_1 j_1 i32 i33 i34 q35
                refine g_iload (n := 9) rfl rfl ?_
                refine g_iload_n (n := 2) rfl rfl ?_
                refine g_icmp_gt (by omega) (by omega) (by omega) (by omega) rfl ?_ ?_
                · intro kk36
                  refine g_ldc2 (x := 10) (by decide) rfl ?_
                  refine g_iload (n := 4) rfl rfl ?_
                  refine g_iload_n (n := 2) rfl rfl ?_
                  refine g_iadd rfl ?_
                  refine c_sL (ps := [vI (z18 + e), vL 10]) (r := []) (as := [vL 10, vI (z18 + e)]) (cs' := 0) (sl' := 0) rfl rfl rfl rfl rfl rfl (d_power10 (d := d - 1) (q := q - (6 + 19)) (by omega) (by omega) hm21 (a := 10) (n := (z18 + e)) (show 10 ≤ 10 ∧ 10 ≤ 10 by omega) (show 0 ≤ (z18 + e) ∧ (z18 + e) ≤ 16 by omega)) (by omega) (show 6 + 19 ≤ q by omega) (Nat.le_of_ble_eq_true rfl) (Nat.le_of_ble_eq_true rfl) rfl rfl rfl ?_
                  rintro z37 m38 ⟨rfl, p40, p41⟩
                  refine g_lstore (n := 9) (lo' := [(7, vL s_1), (5, vL w_1), (4, vI z18), (0, vR 61), (1, vI p), (2, vI e), (3, vI w)]) rfl rfl ?_
                  refine g_lload (n := 7) rfl rfl ?_
                  refine g_lload (n := 9) rfl rfl ?_
                  refine c_sL (ps := [vL z37, vL s_1]) (r := []) (as := [vL s_1, vL z37]) (cs' := 0) (sl' := 0) rfl rfl rfl rfl rfl rfl (d_divisor (d := d - 1) (q := q - (10 + 19)) (by omega) (by omega) hm21 (a := s_1) (b := z37) (show (-9223372036854775808) ≤ s_1 ∧ s_1 ≤ 9223372036854775807 by omega) (show (-9223372036854775808) ≤ z37 ∧ z37 ≤ 9223372036854775807 by omega) (by omega)) (by omega) (show 10 + 19 ≤ q by omega) (Nat.le_of_ble_eq_true rfl) (Nat.le_of_ble_eq_true rfl) rfl rfl rfl ?_
                  rintro z42 m43 ⟨rfl, p45, p46, p47⟩
                  refine g_lstore (n := 11) (lo' := [(9, vL z37), (7, vL s_1), (5, vL w_1), (4, vI z18), (0, vR 61), (1, vI p), (2, vI e), (3, vI w)]) rfl rfl ?_
                  refine g_iload_n (n := 3) rfl rfl ?_
                  refine g_if_ne (by omega) (by omega) rfl ?_ ?_
                  · intro kk48
                    refine g_lload (n := 9) rfl rfl ?_
                    refine g_lload (n := 11) rfl rfl ?_
                    refine g_ldivA (by omega) (by omega) (by omega) (by omega) (by omega) rfl ?_
                    intro z49 h50 h51 h52
                    refine g_lret rfl rfl ?_
                    exact ⟨_, _, rfl, hm21, hf28, by omega, by omega, p25, p26, p27⟩
                  · intro kk53
                    refine g_lload (n := 7) rfl rfl ?_
                    refine g_lload (n := 11) rfl rfl ?_
                    refine g_ldivA (by omega) (by omega) (by omega) (by omega) (by omega) rfl ?_
                    intro z54 h55 h56 h57
                    refine g_goto rfl ?_
                    refine g_lret rfl rfl ?_
                    exact ⟨_, _, rfl, hm21, hf28, by omega, by omega, p25, p26, p27⟩
                · intro kk58
                  refine g_lload (n := 7) rfl rfl ?_
                  refine g_iload (n := 4) rfl rfl ?_
                  refine g_if_ne (by omega) (by omega) rfl ?_ ?_
                  · intro kk59
                    refine g_lload (n := 5) rfl rfl ?_
                    refine g_iload_n (n := 1) rfl rfl ?_
                    refine g_i2l (by omega) (by omega) rfl ?_
                    refine g_iload (n := 9) rfl rfl ?_
                    refine c_sL (ps := [vI j_1, vL p]) (r := [vL w_1, vL s_1]) (as := [vL p, vI j_1]) (cs' := 0) (sl' := 0) rfl rfl rfl rfl rfl rfl (d_power (d := d - 1) (q := q - (6 + 19)) (by omega) (by omega) hm21 (a := p) (n := j_1) (show (-9223372036854775808) ≤ p ∧ p ≤ 9223372036854775807 by omega) (show 0 ≤ j_1 ∧ j_1 ≤ 16 by omega)) (by omega) (show 6 + 19 ≤ q by omega) (Nat.le_of_ble_eq_true rfl) (Nat.le_of_ble_eq_true rfl) rfl rfl rfl ?_
                    rintro z60 m61 ⟨rfl, p63, p64⟩
                    refine g_lmul rfl ?_
                    refine g_nrmL ?_
                    intro z65 h66 h67 h68 h69
                    refine g_bipush (by decide) rfl ?_
                    refine g_iload_n (n := 1) rfl rfl ?_
                    refine g_isub rfl ?_
                    refine g_nrm ?_
                    intro z70 h71 h72 h73 h74
                    refine g_i2l (by omega) (by omega) rfl ?_
                    refine g_iload (n := 4) rfl rfl ?_
                    refine c_sL (ps := [vI z18, vL z70]) (r := [vL z65, vL s_1]) (as := [vL z70, vI z18]) (cs' := 0) (sl' := 0) rfl rfl rfl rfl rfl rfl (d_power (d := d - 1) (q := q - (6 + 19)) (by omega) (by omega) hm21 (a := z70) (n := z18) (show (-9223372036854775808) ≤ z70 ∧ z70 ≤ 9223372036854775807 by omega) (show 0 ≤ z18 ∧ z18 ≤ 16 by omega)) (by omega) (show 6 + 19 ≤ q by omega) (Nat.le_of_ble_eq_true rfl) (Nat.le_of_ble_eq_true rfl) rfl rfl rfl ?_
                    rintro z75 m76 ⟨rfl, p78, p79⟩
                    refine g_lmul rfl ?_
                    refine g_nrmL ?_
                    intro z80 h81 h82 h83 h84
                    refine g_ldc2 (x := 10) (by decide) rfl ?_
                    refine g_iload_n (n := 2) rfl rfl ?_
                    refine g_iload (n := 9) rfl rfl ?_
                    refine g_isub rfl ?_
                    refine c_sL (ps := [vI (e - j_1), vL 10]) (r := [vL z80, vL s_1]) (as := [vL 10, vI (e - j_1)]) (cs' := 0) (sl' := 0) rfl rfl rfl rfl rfl rfl (d_power (d := d - 1) (q := q - (6 + 19)) (by omega) (by omega) hm21 (a := 10) (n := (e - j_1)) (show (-9223372036854775808) ≤ 10 ∧ 10 ≤ 9223372036854775807 by omega) (show 0 ≤ (e - j_1) ∧ (e - j_1) ≤ 16 by omega)) (by omega) (show 6 + 19 ≤ q by omega) (Nat.le_of_ble_eq_true rfl) (Nat.le_of_ble_eq_true rfl) rfl rfl rfl ?_
                    rintro z85 m86 ⟨rfl, p88, p89⟩
                    refine g_lmul rfl ?_
                    refine g_nrmL ?_
                    intro z90 h91 h92 h93 h94
                    refine g_ladd rfl ?_
                    refine g_nrmL ?_
                    intro z95 h96 h97 h98 h99
                    refine g_lstore (n := 7) (lo' := [(9, vI j_1), (5, vL w_1), (4, vI z18), (0, vR 61), (1, vI p), (2, vI e), (3, vI w)]) rfl rfl ?_
                    refine g_lload (n := 5) rfl rfl ?_
                    refine g_iload (n := 4) rfl rfl ?_
                    refine g_iload (n := 9) rfl rfl ?_
                    refine g_iadd rfl ?_
                    refine g_i2l (by omega) (by omega) rfl ?_
                    refine g_lmul rfl ?_
                    refine g_nrmL ?_
                    intro z100 h101 h102 h103 h104
                    refine g_iload (n := 9) rfl rfl ?_
                    refine g_iconst rfl ?_
                    refine g_iadd rfl ?_
                    refine g_i2l (by omega) (by omega) rfl ?_
                    refine g_ldivA (by omega) (by omega) (by omega) (by omega) (by omega) rfl ?_
                    intro z105 h106 h107 h108
                    refine g_lstore (n := 5) (lo' := [(7, vL z95), (9, vI j_1), (4, vI z18), (0, vR 61), (1, vI p), (2, vI e), (3, vI w)]) rfl rfl ?_
                    refine g_iinc (n := 9) (lo' := [(5, vL z105), (7, vL z95), (4, vI z18), (0, vR 61), (1, vI p), (2, vI e), (3, vI w)]) rfl rfl rfl ?_
                    refine g_goto rfl ?_
                    refine g_pick (lo' := [(9, vI (j_1 + 1)), (7, vL z95), (5, vL z105), (4, vI z18), (0, vR 61), (1, vI p), (2, vI e), (3, vI w)]) [0, 2, 1, 3, 4, 5, 6, 7] rfl ?_
                    exact ih70_1 _ (by omega) z105 z95 (j_1 + 1) (by omega) (by omega) (by omega) rfl
                  · intro kk109
                    refine g_iload (n := 9) rfl rfl ?_
                    refine g_if_le (by omega) (by omega) rfl ?_ ?_
                    · intro kk110
                      refine g_lload (n := 5) rfl rfl ?_
                      refine g_iload_n (n := 1) rfl rfl ?_
                      refine g_i2l (by omega) (by omega) rfl ?_
                      refine g_iload (n := 9) rfl rfl ?_
                      refine c_sL (ps := [vI j_1, vL p]) (r := [vL w_1, vL s_1]) (as := [vL p, vI j_1]) (cs' := 0) (sl' := 0) rfl rfl rfl rfl rfl rfl (d_power (d := d - 1) (q := q - (6 + 19)) (by omega) (by omega) hm21 (a := p) (n := j_1) (show (-9223372036854775808) ≤ p ∧ p ≤ 9223372036854775807 by omega) (show 0 ≤ j_1 ∧ j_1 ≤ 16 by omega)) (by omega) (show 6 + 19 ≤ q by omega) (Nat.le_of_ble_eq_true rfl) (Nat.le_of_ble_eq_true rfl) rfl rfl rfl ?_
                      rintro z111 m112 ⟨rfl, p114, p115⟩
                      refine g_lmul rfl ?_
                      refine g_nrmL ?_
                      intro z116 h117 h118 h119 h120
                      refine g_bipush (by decide) rfl ?_
                      refine g_iload_n (n := 1) rfl rfl ?_
                      refine g_isub rfl ?_
                      refine g_nrm ?_
                      intro z121 h122 h123 h124 h125
                      refine g_i2l (by omega) (by omega) rfl ?_
                      refine g_iload (n := 4) rfl rfl ?_
                      refine c_sL (ps := [vI z18, vL z121]) (r := [vL z116, vL s_1]) (as := [vL z121, vI z18]) (cs' := 0) (sl' := 0) rfl rfl rfl rfl rfl rfl (d_power (d := d - 1) (q := q - (6 + 19)) (by omega) (by omega) hm21 (a := z121) (n := z18) (show (-9223372036854775808) ≤ z121 ∧ z121 ≤ 9223372036854775807 by omega) (show 0 ≤ z18 ∧ z18 ≤ 16 by omega)) (by omega) (show 6 + 19 ≤ q by omega) (Nat.le_of_ble_eq_true rfl) (Nat.le_of_ble_eq_true rfl) rfl rfl rfl ?_
                      rintro z126 m127 ⟨rfl, p129, p130⟩
                      refine g_lmul rfl ?_
                      refine g_nrmL ?_
                      intro z131 h132 h133 h134 h135
                      refine g_ldc2 (x := 10) (by decide) rfl ?_
                      refine g_iload_n (n := 2) rfl rfl ?_
                      refine g_iload (n := 9) rfl rfl ?_
                      refine g_isub rfl ?_
                      refine c_sL (ps := [vI (e - j_1), vL 10]) (r := [vL z131, vL s_1]) (as := [vL 10, vI (e - j_1)]) (cs' := 0) (sl' := 0) rfl rfl rfl rfl rfl rfl (d_power (d := d - 1) (q := q - (6 + 19)) (by omega) (by omega) hm21 (a := 10) (n := (e - j_1)) (show (-9223372036854775808) ≤ 10 ∧ 10 ≤ 9223372036854775807 by omega) (show 0 ≤ (e - j_1) ∧ (e - j_1) ≤ 16 by omega)) (by omega) (show 6 + 19 ≤ q by omega) (Nat.le_of_ble_eq_true rfl) (Nat.le_of_ble_eq_true rfl) rfl rfl rfl ?_
                      rintro z136 m137 ⟨rfl, p139, p140⟩
                      refine g_lmul rfl ?_
                      refine g_nrmL ?_
                      intro z141 h142 h143 h144 h145
                      refine g_ladd rfl ?_
                      refine g_nrmL ?_
                      intro z146 h147 h148 h149 h150
                      refine g_lstore (n := 7) (lo' := [(9, vI j_1), (5, vL w_1), (4, vI z18), (0, vR 61), (1, vI p), (2, vI e), (3, vI w)]) rfl rfl ?_
                      refine g_lload (n := 5) rfl rfl ?_
                      refine g_iload (n := 4) rfl rfl ?_
                      refine g_iload (n := 9) rfl rfl ?_
                      refine g_iadd rfl ?_
                      refine g_i2l (by omega) (by omega) rfl ?_
                      refine g_lmul rfl ?_
                      refine g_nrmL ?_
                      intro z151 h152 h153 h154 h155
                      refine g_iload (n := 9) rfl rfl ?_
                      refine g_iconst rfl ?_
                      refine g_iadd rfl ?_
                      refine g_i2l (by omega) (by omega) rfl ?_
                      refine g_ldivA (by omega) (by omega) (by omega) (by omega) (by omega) rfl ?_
                      intro z156 h157 h158 h159
                      refine g_lstore (n := 5) (lo' := [(7, vL z146), (9, vI j_1), (4, vI z18), (0, vR 61), (1, vI p), (2, vI e), (3, vI w)]) rfl rfl ?_
                      refine g_iinc (n := 9) (lo' := [(5, vL z156), (7, vL z146), (4, vI z18), (0, vR 61), (1, vI p), (2, vI e), (3, vI w)]) rfl rfl rfl ?_
                      refine g_goto rfl ?_
                      refine g_pick (lo' := [(9, vI (j_1 + 1)), (7, vL z146), (5, vL z156), (4, vI z18), (0, vR 61), (1, vI p), (2, vI e), (3, vI w)]) [0, 2, 1, 3, 4, 5, 6, 7] rfl ?_
                      exact ih70_1 _ (by omega) z156 z146 (j_1 + 1) (by omega) (by omega) (by omega) rfl
                    · intro kk160
                      refine g_lconst (x := 0) (by decide) rfl ?_
                      refine g_goto rfl ?_
                      refine g_ladd rfl ?_
                      refine g_lstore (n := 7) (lo' := [(9, vI j_1), (5, vL w_1), (4, vI z18), (0, vR 61), (1, vI p), (2, vI e), (3, vI w)]) rfl rfl ?_
                      refine g_lload (n := 5) rfl rfl ?_
                      refine g_iload (n := 4) rfl rfl ?_
                      refine g_iload (n := 9) rfl rfl ?_
                      refine g_iadd rfl ?_
                      refine g_i2l (by omega) (by omega) rfl ?_
                      refine g_lmul rfl ?_
                      refine g_nrmL ?_
                      intro z161 h162 h163 h164 h165
                      refine g_iload (n := 9) rfl rfl ?_
                      refine g_iconst rfl ?_
                      refine g_iadd rfl ?_
                      refine g_i2l (by omega) (by omega) rfl ?_
                      refine g_ldivA (by omega) (by omega) (by omega) (by omega) (by omega) rfl ?_
                      intro z166 h167 h168 h169
                      refine g_lstore (n := 5) (lo' := [(7, vL (s_1 + 0)), (9, vI j_1), (4, vI z18), (0, vR 61), (1, vI p), (2, vI e), (3, vI w)]) rfl rfl ?_
                      refine g_iinc (n := 9) (lo' := [(5, vL z166), (7, vL (s_1 + 0)), (4, vI z18), (0, vR 61), (1, vI p), (2, vI e), (3, vI w)]) rfl rfl rfl ?_
                      refine g_goto rfl ?_
                      refine g_pick (lo' := [(9, vI (j_1 + 1)), (7, vL (s_1 + 0)), (5, vL z166), (4, vI z18), (0, vR 61), (1, vI p), (2, vI e), (3, vI w)]) [0, 2, 1, 3, 4, 5, 6, 7] rfl ?_
                      exact ih70_1 _ (by omega) z166 (s_1 + 0) (j_1 + 1) (by omega) (by omega) (by omega) rfl
            exact L70_1 _ 1 0 0 (by omega) (by omega) (by omega) rfl
          · intro kk170
            refine g_ldc2 (x := (-4)) (by decide) rfl ?_
            refine g_lret rfl rfl ?_
            exact ⟨_, _, rfl, hm21, hf28, by omega, by omega, p25, p26, p27⟩
      · intro kk171
        refine g_ldc2 (x := (-3)) (by decide) rfl ?_
        refine g_lret rfl rfl ?_
        exact ⟨_, _, rfl, hm, hf0, by omega, by omega, h_k4, h_kD, h_kK⟩
theorem d_act {V : cg_V} {d q : Nat} (hd : 3 ≤ d) (hq : 79 ≤ q) {m : kM} (hm : kI m) {c : Int} (h_c : (-2147483648) ≤ c ∧ c ≤ 2147483647) (h_k4 : k4 m) (h_kD : kD m) (h_kK : kK m) : cg_S V d q mX10_act [vR 61, vI c] (kl m) (R_I (fun z m' => (kI m') ∧ (fr [] [62] m m') ∧ (-2147483648 ≤ z) ∧ (z < 2147483648) ∧ (k4 m') ∧ (kD m') ∧ (kK m'))) := by
  have hf0 : fr [] [62] m m := fr_rf m
  refine cg_of (List.mem_of_getElem? (show ae_MT[153]? = some mX10_act from rfl)) (Nat.le_of_ble_eq_true rfl) ?_
  show cg_G V mX10_act d q _ 0 [(0, vR 61), (1, vI c)] [] (kl m) 0 0
  refine g_iload_n (n := 1) rfl rfl ?_
  refine c_sI (ps := [vI c]) (r := []) (as := [vI c]) (cs' := 0) (sl' := 0) rfl rfl rfl rfl rfl rfl (d_isCode (d := d - 1) (q := q - (1 + 19)) (by omega) (by omega) hm (a := c) (show (-2147483648) ≤ c ∧ c ≤ 2147483647 by omega)) (by omega) (show 1 + 19 ≤ q by omega) (Nat.le_of_ble_eq_true rfl) (Nat.le_of_ble_eq_true rfl) rfl rfl rfl ?_
  rintro z1 m2 ⟨rfl, p4⟩
  refine g_if_ne (by omega) (by omega) rfl ?_ ?_
  · intro kk5
    refine g_aload_n (n := 0) rfl rfl ?_
    refine g_iconst rfl ?_
    refine g_iload_n (n := 1) rfl rfl ?_
    have h6 : 0 ≤ m.1 26 ∧ m.1 26 ≤ 10 := hm.1 26
    have h7 : 0 ≤ m.1 27 ∧ m.1 27 ≤ 5 := hm.1 27
    refine c_vI (i := 61) (ps := [vI c, vI 0]) (r := []) (as := [vR 61, vI 0, vI c]) (cs' := 0) (sl' := 0) rfl rfl rfl rfl rfl rfl (kl_61 _) (d_does_0 (d := d - 1) (q := q - (7 + 19)) (by omega) (by omega) hm (c := c) (show (-1) ≤ c ∧ c ≤ 99 by omega) h_kK.1.1) (by omega) (show 7 + 19 ≤ q by omega) (Nat.le_of_ble_eq_true rfl) (Nat.le_of_ble_eq_true rfl) rfl rfl rfl ?_
    rintro z8 m9 ⟨hm11, hc12, p13, p14⟩
    have hf15 : fr [] [62] m m9 := fr_tr hf0 (fr_le hc12 rfl rfl)
    have h16 : m9.1 26 = m.1 26 := hc12.1 26 rfl
    have h17 : 0 ≤ m9.1 26 ∧ m9.1 26 ≤ 10 := hm11.1 26
    have h18 : m9.1 27 = m.1 27 := hc12.1 27 rfl
    have h19 : 0 ≤ m9.1 27 ∧ m9.1 27 ≤ 5 := hm11.1 27
    have t20 : k4 m9 := k4_fr hc12 rfl rfl h_k4
    have t21 : kD m9 := kD_fr hc12 rfl rfl h_kD
    refine g_if_ne (by omega) (by omega) rfl ?_ ?_
    · intro kk22
      refine g_aload_n (n := 0) rfl rfl ?_
      refine g_getf (v := vR 62) rfl (kl_61 _) rfl ?_
      refine g_bipush (by decide) rfl ?_
      refine g_dup2 rfl rfl rfl ?_
      have h23 : (-2147483648) ≤ m9.2.1 62 7 ∧ m9.2.1 62 7 ≤ 2147483647 := hm11.2 62 7 (by decide) (show (7 : Int) < 48 by decide)
      refine g_ialE (f := m9.2.1 62) (v := m9.2.1 62 7) rfl (kl_62 _) (by decide) (by decide) (by decide) rfl ?_
      refine g_iconst rfl ?_
      refine g_iadd rfl ?_
      refine g_nrm ?_
      intro z24 h25 h26 h27 h28
      refine g_iAst (f := m9.2.1 62) (m' := (kA m9 62 (up (m9.2.1 62) 7 z24))) rfl (kl_62 _) (by decide) (by omega) (by omega) (kA_62 _ _) ?_
      have hm29 : kI (kA m9 62 (up (m9.2.1 62) 7 z24)) := kI_U hm11 62 rfl (show ((-2147483648) : Int) ≤ z24 by omega) (show z24 ≤ (2147483647 : Int) by omega)
      have hf30 : fr [] [62] m (kA m9 62 (up (m9.2.1 62) 7 z24)) := fr_A hf15 62 _ rfl
      refine g_aload_n (n := 0) rfl rfl ?_
      refine g_getf (v := vR 62) rfl (kl_61 _) rfl ?_
      refine g_bipush (by decide) rfl ?_
      refine g_ialE (f := up (m9.2.1 62) 7 z24) (v := z24) rfl (kl_62 _) (by decide) (by decide) (by decide) rfl ?_
      refine g_iret rfl rfl ?_
      have hs := (p13.resolve_right (by omega)).2
      have hv : kv (m.1 28) (kr0 (m9.2.1 62)) := kv_stp (hm.1 28).1 (hm.1 28).2 (kD_ok hm h_kD) (by omega) (by omega) hs h_kK.1
      exact ⟨_, _, rfl, hm29, hf30, by omega, by omega, t20, t21, kK_act (hf30.1 28 rfl) (hf30.2.1 63 rfl) (fun j a b => (show up (m9.2.1 62) 7 (z24) j = m9.2.1 62 j from up_ne _ (by omega)).trans (p14 j (by omega))) (show kv (m.1 28) (kr0 (up (m9.2.1 62) 7 (z24))) from hv) h_kK⟩
    · intro kk31
      refine g_bipush (by decide) rfl ?_
      refine g_iret rfl rfl ?_
      have hrow := (p13.resolve_left (by omega)).2.2
      exact ⟨_, _, rfl, hm11, hf15, by omega, by omega, t20, t21, kK_act (hf15.1 28 rfl) (hf15.2.1 63 rfl) (fun j a b => p14 j (by omega)) (by rw [hrow]; exact h_kK.1) h_kK⟩
  · intro kk32
    refine g_bipush (by decide) rfl ?_
    refine g_iret rfl rfl ?_
    exact ⟨_, _, rfl, hm, hf0, by omega, by omega, h_k4, h_kD, h_kK⟩
theorem d_guard {V : cg_V} {d q : Nat} (hd : 3 ≤ d) (hq : 79 ≤ q) {m : kM} (hm : kI m) {g w : Int} (h_g : (-2147483648) ≤ g ∧ g ≤ 2147483647) (h_w : (-2147483648) ≤ w ∧ w ≤ 2147483647) (h_k4 : k4 m) (h_kD : kD m) (h_kK : kK m) : cg_S V d q mX10_guard [vR 61, vI g, vI w] (kl m) (R_I (fun z m' => (kI m') ∧ (fr [] [62] m m') ∧ (-2147483648 ≤ z) ∧ (z < 2147483648) ∧ (k4 m') ∧ (kD m') ∧ (kK m'))) := by
  have hf0 : fr [] [62] m m := fr_rf m
  refine cg_of (List.mem_of_getElem? (show ae_MT[154]? = some mX10_guard from rfl)) (Nat.le_of_ble_eq_true rfl) ?_
  show cg_G V mX10_guard d q _ 0 [(0, vR 61), (1, vI g), (2, vI w)] [] (kl m) 0 0
  refine g_iload_n (n := 1) rfl rfl ?_
  refine c_sI (ps := [vI g]) (r := []) (as := [vI g]) (cs' := 0) (sl' := 0) rfl rfl rfl rfl rfl rfl (d_isGuard (d := d - 1) (q := q - (1 + 19)) (by omega) (by omega) hm (a := g) (show (-2147483648) ≤ g ∧ g ≤ 2147483647 by omega)) (by omega) (show 1 + 19 ≤ q by omega) (Nat.le_of_ble_eq_true rfl) (Nat.le_of_ble_eq_true rfl) rfl rfl rfl ?_
  rintro z1 m2 ⟨rfl, p4⟩
  refine g_if_ne (by omega) (by omega) rfl ?_ ?_
  · intro kk5
    refine g_iload_n (n := 2) rfl rfl ?_
    refine g_if_eq (by omega) (by omega) rfl ?_ ?_
    · intro kk6
      refine g_iload_n (n := 2) rfl rfl ?_
      refine g_if_ne (by omega) (by omega) rfl ?_ ?_
      · intro kk7
        exfalso; omega
      · intro kk8
        refine g_aload_n (n := 0) rfl rfl ?_
        refine g_getf (v := vR 62) rfl (kl_61 _) rfl ?_
        refine g_iconst rfl ?_
        refine g_iload_n (n := 1) rfl rfl ?_
        refine g_iadd rfl ?_
        have h9 : (-2147483648) ≤ m.2.1 62 (0 + g) ∧ m.2.1 62 (0 + g) ≤ 2147483647 := hm.2 62 (0 + g) (by omega) (show (0 + g) < (48 : Int) by omega)
        refine g_iald (f := m.2.1 62) rfl (kl_62 _) (by decide) (by omega) (by omega) ?_
        refine g_goto rfl ?_
        refine g_iret rfl rfl ?_
        exact ⟨_, _, rfl, hm, hf0, by omega, by omega, h_k4, h_kD, h_kK⟩
    · intro kk10
      refine g_iload_n (n := 2) rfl rfl ?_
      refine g_iconst rfl ?_
      refine g_icmp_ne (by omega) (by omega) (by decide) (by decide) rfl ?_ ?_
      · intro kk11
        refine g_iload_n (n := 2) rfl rfl ?_
        refine g_iconst rfl ?_
        refine g_icmp_eq (by omega) (by omega) (by decide) (by decide) rfl ?_ ?_
        · intro kk12
          refine g_iconst rfl ?_
          refine g_istore_n (n := 3) (lo' := [(0, vR 61), (1, vI g), (2, vI w)]) rfl rfl ?_
          refine g_iconst rfl ?_
          refine g_istore (n := 4) (lo' := [(3, vI 0), (0, vR 61), (1, vI g), (2, vI w)]) rfl rfl ?_
          have L56_1 : ∀ (n56_1 : Nat) (s_1 : Int) (i_1 : Int) (mL1 : kM), (kI mL1) → (fr [] [62] m mL1) → (0 ≤ s_1 ∧ s_1 ≤ 50) → (0 ≤ i_1 ∧ i_1 ≤ 50) → (s_1 ≤ i_1) → (∀ j : Int, (j < 32 ∨ 40 ≤ j) → mL1.2.1 62 j = m.2.1 62 j) → (k4 mL1) → (kD mL1) → ((50 - i_1).toNat) = n56_1 → cg_G V mX10_guard d q (R_I (fun z m' => (kI m') ∧ (fr [] [62] m m') ∧ (-2147483648 ≤ z) ∧ (z < 2147483648) ∧ (k4 m') ∧ (kD m') ∧ (kK m'))) 56 [(4, vI i_1), (3, vI s_1), (0, vR 61), (1, vI g), (2, vI w)] [] (kl mL1) 0 0 := by
            intro n56_1
            induction n56_1 using Nat.strongRecOn with
            | _ n56_1 ih56_1 =>
              intro s_1 i_1 mL1 hmL1 hfL1 i13 i14 iQ iR i4 iD q15
              refine g_iload (n := 4) rfl rfl ?_
              refine g_bipush (by decide) rfl ?_
              refine g_icmp_ge (by omega) (by omega) (by decide) (by decide) rfl ?_ ?_
              · intro kk16
                refine g_iload_n (n := 3) rfl rfl ?_
                refine g_iret rfl rfl ?_
                exact ⟨_, _, rfl, hmL1, hfL1, by omega, by omega, i4, iD, kK_of (hfL1.1 28 rfl) (hfL1.2.1 63 rfl) (fun j hj => iR j (by omega)) h_kK⟩
              · intro kk17
                refine g_aload_n (n := 0) rfl rfl ?_
                refine g_iconst rfl ?_
                refine g_iconst rfl ?_
                refine c_vV (i := 61) (ps := [vI 4, vI 0]) (r := []) (as := [vR 61, vI 0, vI 4]) (cs' := 0) (sl' := 0) rfl rfl rfl rfl rfl rfl (kl_61 _) (d_copy_0_4 (d := d - 1) (q := q - (4 + 19)) (by omega) (by omega) hmL1  ) (by omega) (show 4 + 19 ≤ q by omega) (Nat.le_of_ble_eq_true rfl) (Nat.le_of_ble_eq_true rfl) rfl rfl rfl ?_
                rintro m19 ⟨hm21, hc22, p23, p24⟩
                have hf25 : fr [] [62] m m19 := fr_tr hfL1 (fr_le hc22 rfl rfl)
                have t26 : k4 m19 := k4_fr hc22 rfl rfl i4
                have t27 : kD m19 := kD_fr hc22 rfl rfl iD
                refine g_iload_n (n := 3) rfl rfl ?_
                refine g_aload_n (n := 0) rfl rfl ?_
                refine g_iconst rfl ?_
                refine g_bipush (by decide) rfl ?_
                refine g_iload_n (n := 1) rfl rfl ?_
                refine g_imul rfl ?_
                refine g_nrm ?_
                intro z28 h29 h30 h31 h32
                refine g_iload (n := 4) rfl rfl ?_
                refine g_iadd rfl ?_
                refine g_nrm ?_
                intro z33 h34 h35 h36 h37
                have h38 : 0 ≤ m19.1 26 ∧ m19.1 26 ≤ 10 := hm21.1 26
                have h39 : m19.1 26 = mL1.1 26 := hc22.1 26 rfl
                have h40 : 0 ≤ m19.1 27 ∧ m19.1 27 ≤ 5 := hm21.1 27
                have h41 : m19.1 27 = mL1.1 27 := hc22.1 27 rfl
                refine c_vI (i := 61) (ps := [vI z33, vI 4]) (r := [vI s_1]) (as := [vR 61, vI 4, vI z33]) (cs' := 0) (sl' := 0) rfl rfl rfl rfl rfl rfl (kl_61 _) (d_does_4 (d := d - 1) (q := q - (7 + 19)) (by omega) (by omega) hm21 (c := z33) (show (-1) ≤ z33 ∧ z33 ≤ 99 by omega) (by rw [p23, kr0_eq (fun j a b => iR j (by omega))]; exact h_kK.1.1)) (by omega) (show 7 + 19 ≤ q by omega) (Nat.le_of_ble_eq_true rfl) (Nat.le_of_ble_eq_true rfl) rfl rfl rfl ?_
                rintro z42 m43 ⟨hm45, hc46, p47, p48⟩
                have hf49 : fr [] [62] m m43 := fr_tr hf25 (fr_le hc46 rfl rfl)
                have h50 : m43.1 26 = m19.1 26 := hc46.1 26 rfl
                have h51 : 0 ≤ m43.1 26 ∧ m43.1 26 ≤ 10 := hm45.1 26
                have h52 : m43.1 27 = m19.1 27 := hc46.1 27 rfl
                have h53 : 0 ≤ m43.1 27 ∧ m43.1 27 ≤ 5 := hm45.1 27
                have t54 : k4 m43 := k4_fr hc46 rfl rfl t26
                have t55 : kD m43 := kD_fr hc46 rfl rfl t27
                refine g_if_eq (by omega) (by omega) rfl ?_ ?_
                · intro kk56
                  refine g_iconst rfl ?_
                  have hRx : ∀ j : Int, (j < 32 ∨ 40 ≤ j) → m43.2.1 62 j = m.2.1 62 j := fun j hj => (p48 j (by omega)).trans ((p24 j (by omega)).trans (iR j hj))
                  refine g_iadd rfl ?_
                  refine g_istore_n (n := 3) (lo' := [(4, vI i_1), (0, vR 61), (1, vI g), (2, vI w)]) rfl rfl ?_
                  refine g_iinc (n := 4) (lo' := [(3, vI (s_1 + 0)), (0, vR 61), (1, vI g), (2, vI w)]) rfl rfl rfl ?_
                  refine g_goto rfl ?_
                  exact ih56_1 _ (by omega) (s_1 + 0) (i_1 + 1) m43 hm45 hf49 (by omega) (by omega) (by omega) hRx t54 t55 rfl
                · intro kk57
                  refine g_iconst rfl ?_
                  refine g_goto rfl ?_
                  have hRx : ∀ j : Int, (j < 32 ∨ 40 ≤ j) → m43.2.1 62 j = m.2.1 62 j := fun j hj => (p48 j (by omega)).trans ((p24 j (by omega)).trans (iR j hj))
                  refine g_iadd rfl ?_
                  refine g_istore_n (n := 3) (lo' := [(4, vI i_1), (0, vR 61), (1, vI g), (2, vI w)]) rfl rfl ?_
                  refine g_iinc (n := 4) (lo' := [(3, vI (s_1 + 1)), (0, vR 61), (1, vI g), (2, vI w)]) rfl rfl rfl ?_
                  refine g_goto rfl ?_
                  exact ih56_1 _ (by omega) (s_1 + 1) (i_1 + 1) m43 hm45 hf49 (by omega) (by omega) (by omega) hRx t54 t55 rfl
          exact L56_1 _ 0 0 m hm hf0 (by omega) (by omega) (by omega) (fun _ _ => rfl) h_k4 h_kD rfl
        · intro kk58
          refine g_bipush (by decide) rfl ?_
          refine g_iret rfl rfl ?_
          exact ⟨_, _, rfl, hm, hf0, by omega, by omega, h_k4, h_kD, h_kK⟩
      · intro kk59
        refine g_iload_n (n := 2) rfl rfl ?_
        refine g_if_ne (by omega) (by omega) rfl ?_ ?_
        · intro kk60
          refine g_aload_n (n := 0) rfl rfl ?_
          refine g_getf (v := vR 62) rfl (kl_61 _) rfl ?_
          refine g_iconst rfl ?_
          refine g_iload_n (n := 1) rfl rfl ?_
          refine g_iadd rfl ?_
          refine g_nrm ?_
          intro z61 h62 h63 h64 h65
          have h66 : (-2147483648) ≤ m.2.1 62 z61 ∧ m.2.1 62 z61 ≤ 2147483647 := hm.2 62 z61 (by omega) (show z61 < (48 : Int) by omega)
          refine g_iald (f := m.2.1 62) rfl (kl_62 _) (by decide) (by omega) (by omega) ?_
          refine g_iret rfl rfl ?_
          exact ⟨_, _, rfl, hm, hf0, by omega, by omega, h_k4, h_kD, h_kK⟩
        · intro kk67
          exfalso; omega
  · intro kk68
    refine g_bipush (by decide) rfl ?_
    refine g_iret rfl rfl ?_
    exact ⟨_, _, rfl, hm, hf0, by omega, by omega, h_k4, h_kD, h_kK⟩
theorem d_judge {V : cg_V} {d q : Nat} (hd : 3 ≤ d) (hq : 79 ≤ q) {m : kM} (hm : kI m) (h_k4 : k4 m) (h_kD : kD m) (h_kK : kK m) : cg_S V d q mX10_judge [vR 61] (kl m) (R_I (fun z m' => (kI m') ∧ (fr [] [62] m m') ∧ (-2147483648 ≤ z) ∧ (z < 2147483648) ∧ (k4 m') ∧ (kD m') ∧ (kK m'))) := by
  have hf0 : fr [] [62] m m := fr_rf m
  refine cg_of (List.mem_of_getElem? (show ae_MT[177]? = some mX10_judge from rfl)) (Nat.le_of_ble_eq_true rfl) ?_
  show cg_G V mX10_judge d q _ 0 [(0, vR 61)] [] (kl m) 0 0
  refine g_aload_n (n := 0) rfl rfl ?_
  refine g_iconst rfl ?_
  refine g_iconst rfl ?_
  refine c_vV (i := 61) (ps := [vI 4, vI 0]) (r := []) (as := [vR 61, vI 0, vI 4]) (cs' := 0) (sl' := 0) rfl rfl rfl rfl rfl rfl (kl_61 _) (d_copy_0_4 (d := d - 1) (q := q - (4 + 19)) (by omega) (by omega) hm  ) (by omega) (show 4 + 19 ≤ q by omega) (Nat.le_of_ble_eq_true rfl) (Nat.le_of_ble_eq_true rfl) rfl rfl rfl ?_
  rintro m2 ⟨hm4, hc5, p6, p7⟩
  have hf8 : fr [] [62] m m2 := fr_tr hf0 (fr_le hc5 rfl rfl)
  have t9 : k4 m2 := k4_fr hc5 rfl rfl h_k4
  have t10 : kD m2 := kD_fr hc5 rfl rfl h_kD
  refine g_iconst rfl ?_
  refine g_istore_n (n := 1) (lo' := [(0, vR 61)]) rfl rfl ?_
  have hw0 : kw (kr4 (m2.2.1 62)) := by rw [p6]; exact h_kK.1.1
  have hR0 : ∀ j : Int, (j < 32 ∨ 40 ≤ j) → m2.2.1 62 j = m.2.1 62 j := p7
  have L8_1 : ∀ (n8_1 : Nat) (i_1 : Int) (mL1 : kM), (kI mL1) → (fr [] [62] m mL1) → (0 ≤ i_1 ∧ i_1 ≤ 20) → (∀ j : Int, (j < 32 ∨ 40 ≤ j) → mL1.2.1 62 j = m.2.1 62 j) → (kw (kr4 (mL1.2.1 62))) → (k4 mL1) → (kD mL1) → ((20 - i_1).toNat) = n8_1 → cg_G V mX10_judge d q (R_I (fun z m' => (kI m') ∧ (fr [] [62] m m') ∧ (-2147483648 ≤ z) ∧ (z < 2147483648) ∧ (k4 m') ∧ (kD m') ∧ (kK m'))) 8 [(1, vI i_1), (0, vR 61)] [] (kl mL1) 0 0 := by
    intro n8_1
    induction n8_1 using Nat.strongRecOn with
    | _ n8_1 ih8_1 =>
      intro i_1 mL1 hmL1 hfL1 i11 iR iV i4 iD q12
      refine g_iload_n (n := 1) rfl rfl ?_
      refine g_aload_n (n := 0) rfl rfl ?_
      have h13 : 0 ≤ mL1.1 38 ∧ mL1.1 38 ≤ 20 := hmL1.1 38
      have h14 : mL1.1 38 = m.1 38 := hfL1.1 38 rfl
      refine g_getf (v := vI (mL1.1 38)) rfl (kl_61 _) rfl ?_
      refine g_icmp_ge (by omega) (by omega) (by omega) (by omega) rfl ?_ ?_
      · intro kk15
        refine g_iconst rfl ?_
        refine g_iret rfl rfl ?_
        exact ⟨_, _, rfl, hmL1, hfL1, by omega, by omega, i4, iD, kK_of (hfL1.1 28 rfl) (hfL1.2.1 63 rfl) (fun j hj => iR j (by omega)) h_kK⟩
      · intro kk16
        refine g_aload_n (n := 0) rfl rfl ?_
        refine g_iconst rfl ?_
        refine g_aload_n (n := 0) rfl rfl ?_
        refine g_getf (v := vR 72) rfl (kl_61 _) rfl ?_
        refine g_iload_n (n := 1) rfl rfl ?_
        have h17 : 0 ≤ mL1.2.1 72 i_1 ∧ mL1.2.1 72 i_1 ≤ 99 := hmL1.2 72 i_1 (by omega) (show i_1 < (20 : Int) by omega)
        have h18 : mL1.2.1 72 i_1 = m.2.1 72 i_1 := congrFun (hfL1.2.1 72 rfl) _
        refine g_iald (f := mL1.2.1 72) rfl (kl_72 _) (by decide) (by omega) (by omega) ?_
        have h19 : 0 ≤ mL1.1 26 ∧ mL1.1 26 ≤ 10 := hmL1.1 26
        have h20 : mL1.1 26 = m.1 26 := hfL1.1 26 rfl
        have h21 : 0 ≤ mL1.1 27 ∧ mL1.1 27 ≤ 5 := hmL1.1 27
        have h22 : mL1.1 27 = m.1 27 := hfL1.1 27 rfl
        refine c_vI (i := 61) (ps := [vI (mL1.2.1 72 i_1), vI 4]) (r := []) (as := [vR 61, vI 4, vI (mL1.2.1 72 i_1)]) (cs' := 0) (sl' := 0) rfl rfl rfl rfl rfl rfl (kl_61 _) (d_does_4 (d := d - 1) (q := q - (7 + 19)) (by omega) (by omega) hmL1 (c := mL1.2.1 72 i_1) (show (-1) ≤ mL1.2.1 72 i_1 ∧ mL1.2.1 72 i_1 ≤ 99 by omega) iV) (by omega) (show 7 + 19 ≤ q by omega) (Nat.le_of_ble_eq_true rfl) (Nat.le_of_ble_eq_true rfl) rfl rfl rfl ?_
        rintro z23 m24 ⟨hm26, hc27, p28, p29⟩
        have hf30 : fr [] [62] m m24 := fr_tr hfL1 (fr_le hc27 rfl rfl)
        have h31 : m24.1 26 = mL1.1 26 := hc27.1 26 rfl
        have h32 : 0 ≤ m24.1 26 ∧ m24.1 26 ≤ 10 := hm26.1 26
        have h33 : m24.1 27 = mL1.1 27 := hc27.1 27 rfl
        have h34 : 0 ≤ m24.1 27 ∧ m24.1 27 ≤ 5 := hm26.1 27
        have h35 : m24.1 38 = mL1.1 38 := hc27.1 38 rfl
        have h36 : 0 ≤ m24.1 38 ∧ m24.1 38 ≤ 20 := hm26.1 38
        have t37 : k4 m24 := k4_fr hc27 rfl rfl i4
        have t38 : kD m24 := kD_fr hc27 rfl rfl iD
        have hRx : ∀ j : Int, (j < 32 ∨ 40 ≤ j) → m24.2.1 62 j = m.2.1 62 j := fun j hj => (p29 j (by omega)).trans (iR j hj)
        refine g_if_ne (by omega) (by omega) rfl ?_ ?_
        · intro kk39
          have hwx : kw (kr4 (m24.2.1 62)) := kw_stp (kD_ok hmL1 iD) (by omega) (by omega) (p28.resolve_right (by omega)).2 iV
          refine g_iinc (n := 1) (lo' := [(0, vR 61)]) rfl rfl rfl ?_
          refine g_goto rfl ?_
          exact ih8_1 _ (by omega) (i_1 + 1) m24 hm26 hf30 (by omega) hRx hwx t37 t38 rfl
        · intro kk40
          refine g_iload_n (n := 1) rfl rfl ?_
          refine g_iret rfl rfl ?_
          exact ⟨_, _, rfl, hm26, hf30, by omega, by omega, t37, t38, kK_of (hf30.1 28 rfl) (hf30.2.1 63 rfl) (fun j hj => hRx j (by omega)) h_kK⟩
  exact L8_1 _ 0 m2 hm4 hf8 (by omega) hR0 hw0 t9 t10 rfl
theorem d_keep {V : cg_V} {d q : Nat} (hd : 1 ≤ d) (hq : 25 ≤ q) {m : kM} (hm : kI m) {k : Int} (h_k : (-2147483648) ≤ k ∧ k ≤ 2147483647) (h_k4 : k4 m) (h_kD : kD m) (h_kK : kK m) : cg_S V d q mX10_keep [vR 61, vI k] (kl m) (R_I (fun z m' => (kI m') ∧ (fr [] [62, 63] m m') ∧ (-2147483648 ≤ z) ∧ (z < 2147483648) ∧ (k4 m') ∧ (kD m') ∧ (kK m'))) := by
  have hf0 : fr [] [62, 63] m m := fr_rf m
  refine cg_of (List.mem_of_getElem? (show ae_MT[186]? = some mX10_keep from rfl)) (Nat.le_of_ble_eq_true rfl) ?_
  show cg_G V mX10_keep d q _ 0 [(0, vR 61), (1, vI k)] [] (kl m) 0 0
  refine g_iload_n (n := 1) rfl rfl ?_
  refine g_i2l (by omega) (by omega) rfl ?_
  refine g_lconst (x := 0) (by decide) rfl ?_
  refine g_lconst (x := 1) (by decide) rfl ?_
  refine c_sI (ps := [vL 1, vL 0, vL k]) (r := []) (as := [vL k, vL 0, vL 1]) (cs' := 0) (sl' := 0) rfl rfl rfl rfl rfl rfl (d_in (d := d - 1) (q := q - (6 + 19)) (by omega) (by omega) hm (a := k) (b := 0) (c := 1) (show (-9223372036854775808) ≤ k ∧ k ≤ 9223372036854775807 by omega) (show (-9223372036854775808) ≤ 0 ∧ 0 ≤ 9223372036854775807 by omega) (show (-9223372036854775808) ≤ 1 ∧ 1 ≤ 9223372036854775807 by omega)) (by omega) (show 6 + 19 ≤ q by omega) (Nat.le_of_ble_eq_true rfl) (Nat.le_of_ble_eq_true rfl) rfl rfl rfl ?_
  rintro z1 m2 ⟨rfl, p4⟩
  refine g_if_ne (by omega) (by omega) rfl ?_ ?_
  · intro kk5
    have h6 : k = 0 ∨ k = 1 := by omega
    rcases h6 with rfl | rfl
    · refine g_aload_n (n := 0) rfl rfl ?_
      refine g_iconst rfl ?_
      refine g_iconst rfl ?_
      refine g_iload_n (n := 1) rfl rfl ?_
      refine g_iaddE (z := 1) (by decide) rfl ?_
      refine c_vV (i := 61) (ps := [vI 1, vI 0]) (r := []) (as := [vR 61, vI 0, vI 1]) (cs' := 0) (sl' := 0) rfl rfl rfl rfl rfl rfl (kl_61 _) (d_copy_0_1 (d := d - 1) (q := q - (4 + 19)) (by omega) (by omega) hm  ) (by omega) (show 4 + 19 ≤ q by omega) (Nat.le_of_ble_eq_true rfl) (Nat.le_of_ble_eq_true rfl) rfl rfl rfl ?_
      rintro m8 ⟨hm10, hc11, p12, p13⟩
      have hf14 : fr [] [62, 63] m m8 := fr_tr hf0 (fr_le hc11 rfl rfl)
      have t15 : k4 m8 := k4_fr hc11 rfl rfl h_k4
      have t16 : kD m8 := kD_fr hc11 rfl rfl h_kD
      refine g_aload_n (n := 0) rfl rfl ?_
      refine g_getf (v := vR 63) rfl (kl_61 _) rfl ?_
      refine g_iload_n (n := 1) rfl rfl ?_
      refine g_iconst rfl ?_
      refine g_zAst (f := m8.2.1 63) (m' := (kA m8 63 (up (m8.2.1 63) 0 1))) rfl (kl_63 _) (by decide) (by omega) (by omega) (by omega) (kA_63 _ _) ?_
      have hm17 : kI (kA m8 63 (up (m8.2.1 63) 0 1)) := kI_U hm10 63 rfl (show (0 : Int) ≤ 1 by omega) (show 1 ≤ (1 : Int) by omega)
      have hf18 : fr [] [62, 63] m (kA m8 63 (up (m8.2.1 63) 0 1)) := fr_A hf14 63 _ rfl
      refine g_aload_n (n := 0) rfl rfl ?_
      refine g_getf (v := vR 62) rfl (kl_61 _) rfl ?_
      refine g_bipush (by decide) rfl ?_
      have h19 : (-2147483648) ≤ m8.2.1 62 7 ∧ m8.2.1 62 7 ≤ 2147483647 := hm10.2 62 7 (by decide) (show (7 : Int) < 48 by decide)
      refine g_ialE (f := m8.2.1 62) (v := m8.2.1 62 7) rfl (kl_62 _) (by decide) (by decide) (by decide) rfl ?_
      refine g_iret rfl rfl ?_
      have hK9 : kK (kA m8 63 (up (m8.2.1 63) 0 1)) := by
        show kv (m8.1 28) (kr0 (m8.2.1 62)) ∧ (up (m8.2.1 63) 0 1 0 = 1 → kv (m8.1 28) (kr1 (m8.2.1 62))) ∧ (up (m8.2.1 63) 0 1 1 = 1 → kv (m8.1 28) (kr2 (m8.2.1 62)))
        rw [hc11.1 28 rfl, hc11.2.1 63 rfl, p12, kr0_eq (fun j a b => p13 j (by omega)), kr2_eq (fun j a b => p13 j (by omega))]
        exact ⟨h_kK.1, fun _ => h_kK.1, fun e => h_kK.2.2 (by rw [up_ne _ (by decide)] at e; exact e)⟩
      exact ⟨_, _, rfl, hm17, hf18, by omega, by omega, t15, t16, hK9⟩
    · refine g_aload_n (n := 0) rfl rfl ?_
      refine g_iconst rfl ?_
      refine g_iconst rfl ?_
      refine g_iload_n (n := 1) rfl rfl ?_
      refine g_iaddE (z := 2) (by decide) rfl ?_
      refine c_vV (i := 61) (ps := [vI 2, vI 0]) (r := []) (as := [vR 61, vI 0, vI 2]) (cs' := 0) (sl' := 0) rfl rfl rfl rfl rfl rfl (kl_61 _) (d_copy_0_2 (d := d - 1) (q := q - (4 + 19)) (by omega) (by omega) hm  ) (by omega) (show 4 + 19 ≤ q by omega) (Nat.le_of_ble_eq_true rfl) (Nat.le_of_ble_eq_true rfl) rfl rfl rfl ?_
      rintro m21 ⟨hm23, hc24, p25, p26⟩
      have hf27 : fr [] [62, 63] m m21 := fr_tr hf0 (fr_le hc24 rfl rfl)
      have t28 : k4 m21 := k4_fr hc24 rfl rfl h_k4
      have t29 : kD m21 := kD_fr hc24 rfl rfl h_kD
      refine g_aload_n (n := 0) rfl rfl ?_
      refine g_getf (v := vR 63) rfl (kl_61 _) rfl ?_
      refine g_iload_n (n := 1) rfl rfl ?_
      refine g_iconst rfl ?_
      refine g_zAst (f := m21.2.1 63) (m' := (kA m21 63 (up (m21.2.1 63) 1 1))) rfl (kl_63 _) (by decide) (by omega) (by omega) (by omega) (kA_63 _ _) ?_
      have hm30 : kI (kA m21 63 (up (m21.2.1 63) 1 1)) := kI_U hm23 63 rfl (show (0 : Int) ≤ 1 by omega) (show 1 ≤ (1 : Int) by omega)
      have hf31 : fr [] [62, 63] m (kA m21 63 (up (m21.2.1 63) 1 1)) := fr_A hf27 63 _ rfl
      refine g_aload_n (n := 0) rfl rfl ?_
      refine g_getf (v := vR 62) rfl (kl_61 _) rfl ?_
      refine g_bipush (by decide) rfl ?_
      have h32 : (-2147483648) ≤ m21.2.1 62 7 ∧ m21.2.1 62 7 ≤ 2147483647 := hm23.2 62 7 (by decide) (show (7 : Int) < 48 by decide)
      refine g_ialE (f := m21.2.1 62) (v := m21.2.1 62 7) rfl (kl_62 _) (by decide) (by decide) (by decide) rfl ?_
      refine g_iret rfl rfl ?_
      have hK9 : kK (kA m21 63 (up (m21.2.1 63) 1 1)) := by
        show kv (m21.1 28) (kr0 (m21.2.1 62)) ∧ (up (m21.2.1 63) 1 1 0 = 1 → kv (m21.1 28) (kr1 (m21.2.1 62))) ∧ (up (m21.2.1 63) 1 1 1 = 1 → kv (m21.1 28) (kr2 (m21.2.1 62)))
        rw [hc24.1 28 rfl, hc24.2.1 63 rfl, p25, kr0_eq (fun j a b => p26 j (by omega)), kr1_eq (fun j a b => p26 j (by omega))]
        exact ⟨h_kK.1, fun e => h_kK.2.1 (by rw [up_ne _ (by decide)] at e; exact e), fun _ => h_kK.1⟩
      exact ⟨_, _, rfl, hm30, hf31, by omega, by omega, t28, t29, hK9⟩
  · intro kk33
    refine g_bipush (by decide) rfl ?_
    refine g_iret rfl rfl ?_
    exact ⟨_, _, rfl, hm, hf0, by omega, by omega, h_k4, h_kD, h_kK⟩
theorem d_back {V : cg_V} {d q : Nat} (hd : 1 ≤ d) (hq : 25 ≤ q) {m : kM} (hm : kI m) {k : Int} (h_k : (-2147483648) ≤ k ∧ k ≤ 2147483647) (h_k4 : k4 m) (h_kD : kD m) (h_kK : kK m) : cg_S V d q mX10_back [vR 61, vI k] (kl m) (R_I (fun z m' => (kI m') ∧ (fr [] [62] m m') ∧ (-2147483648 ≤ z) ∧ (z < 2147483648) ∧ (k4 m') ∧ (kD m') ∧ (kK m'))) := by
  have hf0 : fr [] [62] m m := fr_rf m
  refine cg_of (List.mem_of_getElem? (show ae_MT[187]? = some mX10_back from rfl)) (Nat.le_of_ble_eq_true rfl) ?_
  show cg_G V mX10_back d q _ 0 [(0, vR 61), (1, vI k)] [] (kl m) 0 0
  refine g_iload_n (n := 1) rfl rfl ?_
  refine g_i2l (by omega) (by omega) rfl ?_
  refine g_lconst (x := 0) (by decide) rfl ?_
  refine g_lconst (x := 1) (by decide) rfl ?_
  refine c_sI (ps := [vL 1, vL 0, vL k]) (r := []) (as := [vL k, vL 0, vL 1]) (cs' := 0) (sl' := 0) rfl rfl rfl rfl rfl rfl (d_in (d := d - 1) (q := q - (6 + 19)) (by omega) (by omega) hm (a := k) (b := 0) (c := 1) (show (-9223372036854775808) ≤ k ∧ k ≤ 9223372036854775807 by omega) (show (-9223372036854775808) ≤ 0 ∧ 0 ≤ 9223372036854775807 by omega) (show (-9223372036854775808) ≤ 1 ∧ 1 ≤ 9223372036854775807 by omega)) (by omega) (show 6 + 19 ≤ q by omega) (Nat.le_of_ble_eq_true rfl) (Nat.le_of_ble_eq_true rfl) rfl rfl rfl ?_
  rintro z1 m2 ⟨rfl, p4⟩
  refine g_if_ne (by omega) (by omega) rfl ?_ ?_
  · intro kk5
    have h6 : k = 0 ∨ k = 1 := by omega
    rcases h6 with rfl | rfl
    · refine g_aload_n (n := 0) rfl rfl ?_
      refine g_getf (v := vR 63) rfl (kl_61 _) rfl ?_
      refine g_iload_n (n := 1) rfl rfl ?_
      have h7 : 0 ≤ m.2.1 63 0 ∧ m.2.1 63 0 ≤ 1 := hm.2 63 0 (by omega) (show 0 < (2 : Int) by omega)
      refine g_zald (f := m.2.1 63) rfl (kl_63 _) (by decide) (by omega) (by omega) ?_
      refine g_if_ne (by omega) (by omega) rfl ?_ ?_
      · intro kk8
        refine g_aload_n (n := 0) rfl rfl ?_
        refine g_iconst rfl ?_
        refine g_iload_n (n := 1) rfl rfl ?_
        refine g_iaddE (z := 1) (by decide) rfl ?_
        refine g_iconst rfl ?_
        refine c_vV (i := 61) (ps := [vI 0, vI 1]) (r := []) (as := [vR 61, vI 1, vI 0]) (cs' := 0) (sl' := 0) rfl rfl rfl rfl rfl rfl (kl_61 _) (d_copy_1_0 (d := d - 1) (q := q - (4 + 19)) (by omega) (by omega) hm  ) (by omega) (show 4 + 19 ≤ q by omega) (Nat.le_of_ble_eq_true rfl) (Nat.le_of_ble_eq_true rfl) rfl rfl rfl ?_
        rintro m10 ⟨hm12, hc13, p14, p15⟩
        have hf16 : fr [] [62] m m10 := fr_tr hf0 (fr_le hc13 rfl rfl)
        have t17 : k4 m10 := k4_fr hc13 rfl rfl h_k4
        have t18 : kD m10 := kD_fr hc13 rfl rfl h_kD
        refine g_aload_n (n := 0) rfl rfl ?_
        refine g_getf (v := vR 62) rfl (kl_61 _) rfl ?_
        refine g_bipush (by decide) rfl ?_
        have h19 : (-2147483648) ≤ m10.2.1 62 7 ∧ m10.2.1 62 7 ≤ 2147483647 := hm12.2 62 7 (by decide) (show (7 : Int) < 48 by decide)
        refine g_ialE (f := m10.2.1 62) (v := m10.2.1 62 7) rfl (kl_62 _) (by decide) (by decide) (by decide) rfl ?_
        refine g_iret rfl rfl ?_
        have hK9 : kK m10 := kK_act (hc13.1 28 rfl) (hc13.2.1 63 rfl) (fun j a b => p15 j (by omega)) (by rw [p14]; exact h_kK.2.1 (by omega)) h_kK
        exact ⟨_, _, rfl, hm12, hf16, by omega, by omega, t17, t18, hK9⟩
      · intro kk20
        refine g_bipush (by decide) rfl ?_
        refine g_iret rfl rfl ?_
        exact ⟨_, _, rfl, hm, hf0, by omega, by omega, h_k4, h_kD, h_kK⟩
    · refine g_aload_n (n := 0) rfl rfl ?_
      refine g_getf (v := vR 63) rfl (kl_61 _) rfl ?_
      refine g_iload_n (n := 1) rfl rfl ?_
      have h21 : 0 ≤ m.2.1 63 1 ∧ m.2.1 63 1 ≤ 1 := hm.2 63 1 (by omega) (show 1 < (2 : Int) by omega)
      refine g_zald (f := m.2.1 63) rfl (kl_63 _) (by decide) (by omega) (by omega) ?_
      refine g_if_ne (by omega) (by omega) rfl ?_ ?_
      · intro kk22
        refine g_aload_n (n := 0) rfl rfl ?_
        refine g_iconst rfl ?_
        refine g_iload_n (n := 1) rfl rfl ?_
        refine g_iaddE (z := 2) (by decide) rfl ?_
        refine g_iconst rfl ?_
        refine c_vV (i := 61) (ps := [vI 0, vI 2]) (r := []) (as := [vR 61, vI 2, vI 0]) (cs' := 0) (sl' := 0) rfl rfl rfl rfl rfl rfl (kl_61 _) (d_copy_2_0 (d := d - 1) (q := q - (4 + 19)) (by omega) (by omega) hm  ) (by omega) (show 4 + 19 ≤ q by omega) (Nat.le_of_ble_eq_true rfl) (Nat.le_of_ble_eq_true rfl) rfl rfl rfl ?_
        rintro m24 ⟨hm26, hc27, p28, p29⟩
        have hf30 : fr [] [62] m m24 := fr_tr hf0 (fr_le hc27 rfl rfl)
        have t31 : k4 m24 := k4_fr hc27 rfl rfl h_k4
        have t32 : kD m24 := kD_fr hc27 rfl rfl h_kD
        refine g_aload_n (n := 0) rfl rfl ?_
        refine g_getf (v := vR 62) rfl (kl_61 _) rfl ?_
        refine g_bipush (by decide) rfl ?_
        have h33 : (-2147483648) ≤ m24.2.1 62 7 ∧ m24.2.1 62 7 ≤ 2147483647 := hm26.2 62 7 (by decide) (show (7 : Int) < 48 by decide)
        refine g_ialE (f := m24.2.1 62) (v := m24.2.1 62 7) rfl (kl_62 _) (by decide) (by decide) (by decide) rfl ?_
        refine g_iret rfl rfl ?_
        have hK9 : kK m24 := kK_act (hc27.1 28 rfl) (hc27.2.1 63 rfl) (fun j a b => p29 j (by omega)) (by rw [p28]; exact h_kK.2.2 (by omega)) h_kK
        exact ⟨_, _, rfl, hm26, hf30, by omega, by omega, t31, t32, hK9⟩
      · intro kk34
        refine g_bipush (by decide) rfl ?_
        refine g_iret rfl rfl ?_
        exact ⟨_, _, rfl, hm, hf0, by omega, by omega, h_k4, h_kD, h_kK⟩
  · intro kk35
    refine g_bipush (by decide) rfl ?_
    refine g_iret rfl rfl ?_
    exact ⟨_, _, rfl, hm, hf0, by omega, by omega, h_k4, h_kD, h_kK⟩
theorem d_begin {V : cg_V} {d q : Nat} (hd : 0 ≤ d) (hq : 0 ≤ q) {m : kM} (hm : kI m) : cg_S V d q mX10_begin [vR 61] (kl m) (R_V (fun m' => (kI m') ∧ (fr [] [62] m m') ∧ (kr0 (m'.2.1 62) = (m.2.1 67 0, m.2.1 67 1, 0, 0, m.1 30, m.1 28, m.1 29)) ∧ (∀ j : Int, (j < 0 ∨ 8 ≤ j) → m'.2.1 62 j = m.2.1 62 j))) := by
  have hf0 : fr [] [62] m m := fr_rf m
  refine cg_of (List.mem_of_getElem? (show ae_MT[117]? = some mX10_begin from rfl)) (Nat.le_of_ble_eq_true rfl) ?_
  show cg_G V mX10_begin d q _ 0 [(0, vR 61)] [] (kl m) 0 0
  have h1 : 0 ≤ m.1 28 ∧ m.1 28 ≤ 63 := hm.1 28
  have h2 : 0 ≤ m.1 29 ∧ m.1 29 ≤ 3 := hm.1 29
  have h3 : 0 ≤ m.1 30 ∧ m.1 30 ≤ 5 := hm.1 30
  refine g_iconst rfl ?_
  refine g_istore_n (n := 1) (lo' := [(0, vR 61)]) rfl rfl ?_
  refine g_iload_n (n := 1) rfl rfl ?_
  refine g_iconst rfl ?_
  refine g_icmp_ge (by decide) (by decide) (by decide) (by decide) rfl ?_ ?_
  · intro kk4
    exfalso; omega
  · intro kk5
    refine g_aload_n (n := 0) rfl rfl ?_
    refine g_getf (v := vR 62) rfl (kl_61 _) rfl ?_
    refine g_iconst rfl ?_
    refine g_iload_n (n := 1) rfl rfl ?_
    refine g_iaddE (z := 0) (by decide) rfl ?_
    refine g_aload_n (n := 0) rfl rfl ?_
    refine g_getf (v := vR 67) rfl (kl_61 _) rfl ?_
    refine g_iload_n (n := 1) rfl rfl ?_
    have h6 : 0 ≤ m.2.1 67 0 ∧ m.2.1 67 0 ≤ 5 := hm.2 67 0 (by decide) (show (0 : Int) < 2 by decide)
    refine g_ialE (f := m.2.1 67) (v := m.2.1 67 0) rfl (kl_67 _) (by decide) (by decide) (by decide) rfl ?_
    refine g_iAst (f := m.2.1 62) (m' := (kA m 62 (up (m.2.1 62) 0 (m.2.1 67 0)))) rfl (kl_62 _) (by decide) (by omega) (by omega) (kA_62 _ _) ?_
    have hm7 : kI (kA m 62 (up (m.2.1 62) 0 (m.2.1 67 0))) := kI_U hm 62 rfl (show ((-2147483648) : Int) ≤ m.2.1 67 0 by omega) (show m.2.1 67 0 ≤ (2147483647 : Int) by omega)
    have hf8 : fr [] [62] m (kA m 62 (up (m.2.1 62) 0 (m.2.1 67 0))) := fr_A hf0 62 _ rfl
    refine g_aload_n (n := 0) rfl rfl ?_
    refine g_getf (v := vR 62) rfl (kl_61 _) rfl ?_
    refine g_iconst rfl ?_
    refine g_iload_n (n := 1) rfl rfl ?_
    refine g_iaddE (z := 2) (by decide) rfl ?_
    refine g_iconst rfl ?_
    refine g_iAst (f := up (m.2.1 62) 0 (m.2.1 67 0)) (m' := (kA (kA m 62 (up (m.2.1 62) 0 (m.2.1 67 0))) 62 (up (up (m.2.1 62) 0 (m.2.1 67 0)) 2 0))) rfl (kl_62 _) (by decide) (by omega) (by omega) (kA_62 _ _) ?_
    have hm9 : kI (kA (kA m 62 (up (m.2.1 62) 0 (m.2.1 67 0))) 62 (up (up (m.2.1 62) 0 (m.2.1 67 0)) 2 0)) := kI_U hm7 62 rfl (show ((-2147483648) : Int) ≤ 0 by omega) (show 0 ≤ (2147483647 : Int) by omega)
    have hf10 : fr [] [62] m (kA (kA m 62 (up (m.2.1 62) 0 (m.2.1 67 0))) 62 (up (up (m.2.1 62) 0 (m.2.1 67 0)) 2 0)) := fr_A hf8 62 _ rfl
    refine g_iincE (z := 1) (by decide) (n := 1) (lo' := [(0, vR 61)]) rfl rfl rfl ?_
    refine g_goto rfl ?_
    refine g_iload_n (n := 1) rfl rfl ?_
    refine g_iconst rfl ?_
    refine g_icmp_ge (by decide) (by decide) (by decide) (by decide) rfl ?_ ?_
    · intro kk11
      exfalso; omega
    · intro kk12
      refine g_aload_n (n := 0) rfl rfl ?_
      refine g_getf (v := vR 62) rfl (kl_61 _) rfl ?_
      refine g_iconst rfl ?_
      refine g_iload_n (n := 1) rfl rfl ?_
      refine g_iaddE (z := 1) (by decide) rfl ?_
      refine g_aload_n (n := 0) rfl rfl ?_
      refine g_getf (v := vR 67) rfl (kl_61 _) rfl ?_
      refine g_iload_n (n := 1) rfl rfl ?_
      have h13 : 0 ≤ m.2.1 67 1 ∧ m.2.1 67 1 ≤ 5 := hm.2 67 1 (by decide) (show (1 : Int) < 2 by decide)
      refine g_ialE (f := m.2.1 67) (v := m.2.1 67 1) rfl (kl_67 _) (by decide) (by decide) (by decide) rfl ?_
      refine g_iAst (f := up (up (m.2.1 62) 0 (m.2.1 67 0)) 2 0) (m' := (kA (kA (kA m 62 (up (m.2.1 62) 0 (m.2.1 67 0))) 62 (up (up (m.2.1 62) 0 (m.2.1 67 0)) 2 0)) 62 (up (up (up (m.2.1 62) 0 (m.2.1 67 0)) 2 0) 1 (m.2.1 67 1)))) rfl (kl_62 _) (by decide) (by omega) (by omega) (kA_62 _ _) ?_
      have hm14 : kI (kA (kA (kA m 62 (up (m.2.1 62) 0 (m.2.1 67 0))) 62 (up (up (m.2.1 62) 0 (m.2.1 67 0)) 2 0)) 62 (up (up (up (m.2.1 62) 0 (m.2.1 67 0)) 2 0) 1 (m.2.1 67 1))) := kI_U hm9 62 rfl (show ((-2147483648) : Int) ≤ m.2.1 67 1 by omega) (show m.2.1 67 1 ≤ (2147483647 : Int) by omega)
      have hf15 : fr [] [62] m (kA (kA (kA m 62 (up (m.2.1 62) 0 (m.2.1 67 0))) 62 (up (up (m.2.1 62) 0 (m.2.1 67 0)) 2 0)) 62 (up (up (up (m.2.1 62) 0 (m.2.1 67 0)) 2 0) 1 (m.2.1 67 1))) := fr_A hf10 62 _ rfl
      refine g_aload_n (n := 0) rfl rfl ?_
      refine g_getf (v := vR 62) rfl (kl_61 _) rfl ?_
      refine g_iconst rfl ?_
      refine g_iload_n (n := 1) rfl rfl ?_
      refine g_iaddE (z := 3) (by decide) rfl ?_
      refine g_iconst rfl ?_
      refine g_iAst (f := up (up (up (m.2.1 62) 0 (m.2.1 67 0)) 2 0) 1 (m.2.1 67 1)) (m' := (kA (kA (kA (kA m 62 (up (m.2.1 62) 0 (m.2.1 67 0))) 62 (up (up (m.2.1 62) 0 (m.2.1 67 0)) 2 0)) 62 (up (up (up (m.2.1 62) 0 (m.2.1 67 0)) 2 0) 1 (m.2.1 67 1))) 62 (up (up (up (up (m.2.1 62) 0 (m.2.1 67 0)) 2 0) 1 (m.2.1 67 1)) 3 0))) rfl (kl_62 _) (by decide) (by omega) (by omega) (kA_62 _ _) ?_
      have hm16 : kI (kA (kA (kA (kA m 62 (up (m.2.1 62) 0 (m.2.1 67 0))) 62 (up (up (m.2.1 62) 0 (m.2.1 67 0)) 2 0)) 62 (up (up (up (m.2.1 62) 0 (m.2.1 67 0)) 2 0) 1 (m.2.1 67 1))) 62 (up (up (up (up (m.2.1 62) 0 (m.2.1 67 0)) 2 0) 1 (m.2.1 67 1)) 3 0)) := kI_U hm14 62 rfl (show ((-2147483648) : Int) ≤ 0 by omega) (show 0 ≤ (2147483647 : Int) by omega)
      have hf17 : fr [] [62] m (kA (kA (kA (kA m 62 (up (m.2.1 62) 0 (m.2.1 67 0))) 62 (up (up (m.2.1 62) 0 (m.2.1 67 0)) 2 0)) 62 (up (up (up (m.2.1 62) 0 (m.2.1 67 0)) 2 0) 1 (m.2.1 67 1))) 62 (up (up (up (up (m.2.1 62) 0 (m.2.1 67 0)) 2 0) 1 (m.2.1 67 1)) 3 0)) := fr_A hf15 62 _ rfl
      refine g_iincE (z := 2) (by decide) (n := 1) (lo' := [(0, vR 61)]) rfl rfl rfl ?_
      refine g_goto rfl ?_
      refine g_iload_n (n := 1) rfl rfl ?_
      refine g_iconst rfl ?_
      refine g_icmp_ge (by decide) (by decide) (by decide) (by decide) rfl ?_ ?_
      · intro kk18
        refine g_aload_n (n := 0) rfl rfl ?_
        refine g_getf (v := vR 62) rfl (kl_61 _) rfl ?_
        refine g_iconst rfl ?_
        refine g_aload_n (n := 0) rfl rfl ?_
        refine g_getf (v := vI (m.1 30)) rfl (kl_61 _) rfl ?_
        refine g_iAst (f := up (up (up (up (m.2.1 62) 0 (m.2.1 67 0)) 2 0) 1 (m.2.1 67 1)) 3 0) (m' := (kA (kA (kA (kA (kA m 62 (up (m.2.1 62) 0 (m.2.1 67 0))) 62 (up (up (m.2.1 62) 0 (m.2.1 67 0)) 2 0)) 62 (up (up (up (m.2.1 62) 0 (m.2.1 67 0)) 2 0) 1 (m.2.1 67 1))) 62 (up (up (up (up (m.2.1 62) 0 (m.2.1 67 0)) 2 0) 1 (m.2.1 67 1)) 3 0)) 62 (up (up (up (up (up (m.2.1 62) 0 (m.2.1 67 0)) 2 0) 1 (m.2.1 67 1)) 3 0) 4 (m.1 30)))) rfl (kl_62 _) (by decide) (by omega) (by omega) (kA_62 _ _) ?_
        have hm19 : kI (kA (kA (kA (kA (kA m 62 (up (m.2.1 62) 0 (m.2.1 67 0))) 62 (up (up (m.2.1 62) 0 (m.2.1 67 0)) 2 0)) 62 (up (up (up (m.2.1 62) 0 (m.2.1 67 0)) 2 0) 1 (m.2.1 67 1))) 62 (up (up (up (up (m.2.1 62) 0 (m.2.1 67 0)) 2 0) 1 (m.2.1 67 1)) 3 0)) 62 (up (up (up (up (up (m.2.1 62) 0 (m.2.1 67 0)) 2 0) 1 (m.2.1 67 1)) 3 0) 4 (m.1 30))) := kI_U hm16 62 rfl (show ((-2147483648) : Int) ≤ m.1 30 by omega) (show m.1 30 ≤ (2147483647 : Int) by omega)
        have hf20 : fr [] [62] m (kA (kA (kA (kA (kA m 62 (up (m.2.1 62) 0 (m.2.1 67 0))) 62 (up (up (m.2.1 62) 0 (m.2.1 67 0)) 2 0)) 62 (up (up (up (m.2.1 62) 0 (m.2.1 67 0)) 2 0) 1 (m.2.1 67 1))) 62 (up (up (up (up (m.2.1 62) 0 (m.2.1 67 0)) 2 0) 1 (m.2.1 67 1)) 3 0)) 62 (up (up (up (up (up (m.2.1 62) 0 (m.2.1 67 0)) 2 0) 1 (m.2.1 67 1)) 3 0) 4 (m.1 30))) := fr_A hf17 62 _ rfl
        refine g_aload_n (n := 0) rfl rfl ?_
        refine g_getf (v := vR 62) rfl (kl_61 _) rfl ?_
        refine g_iconst rfl ?_
        refine g_aload_n (n := 0) rfl rfl ?_
        refine g_getf (v := vI (m.1 28)) rfl (kl_61 _) rfl ?_
        refine g_iAst (f := up (up (up (up (up (m.2.1 62) 0 (m.2.1 67 0)) 2 0) 1 (m.2.1 67 1)) 3 0) 4 (m.1 30)) (m' := (kA (kA (kA (kA (kA (kA m 62 (up (m.2.1 62) 0 (m.2.1 67 0))) 62 (up (up (m.2.1 62) 0 (m.2.1 67 0)) 2 0)) 62 (up (up (up (m.2.1 62) 0 (m.2.1 67 0)) 2 0) 1 (m.2.1 67 1))) 62 (up (up (up (up (m.2.1 62) 0 (m.2.1 67 0)) 2 0) 1 (m.2.1 67 1)) 3 0)) 62 (up (up (up (up (up (m.2.1 62) 0 (m.2.1 67 0)) 2 0) 1 (m.2.1 67 1)) 3 0) 4 (m.1 30))) 62 (up (up (up (up (up (up (m.2.1 62) 0 (m.2.1 67 0)) 2 0) 1 (m.2.1 67 1)) 3 0) 4 (m.1 30)) 5 (m.1 28)))) rfl (kl_62 _) (by decide) (by omega) (by omega) (kA_62 _ _) ?_
        have hm21 : kI (kA (kA (kA (kA (kA (kA m 62 (up (m.2.1 62) 0 (m.2.1 67 0))) 62 (up (up (m.2.1 62) 0 (m.2.1 67 0)) 2 0)) 62 (up (up (up (m.2.1 62) 0 (m.2.1 67 0)) 2 0) 1 (m.2.1 67 1))) 62 (up (up (up (up (m.2.1 62) 0 (m.2.1 67 0)) 2 0) 1 (m.2.1 67 1)) 3 0)) 62 (up (up (up (up (up (m.2.1 62) 0 (m.2.1 67 0)) 2 0) 1 (m.2.1 67 1)) 3 0) 4 (m.1 30))) 62 (up (up (up (up (up (up (m.2.1 62) 0 (m.2.1 67 0)) 2 0) 1 (m.2.1 67 1)) 3 0) 4 (m.1 30)) 5 (m.1 28))) := kI_U hm19 62 rfl (show ((-2147483648) : Int) ≤ m.1 28 by omega) (show m.1 28 ≤ (2147483647 : Int) by omega)
        have hf22 : fr [] [62] m (kA (kA (kA (kA (kA (kA m 62 (up (m.2.1 62) 0 (m.2.1 67 0))) 62 (up (up (m.2.1 62) 0 (m.2.1 67 0)) 2 0)) 62 (up (up (up (m.2.1 62) 0 (m.2.1 67 0)) 2 0) 1 (m.2.1 67 1))) 62 (up (up (up (up (m.2.1 62) 0 (m.2.1 67 0)) 2 0) 1 (m.2.1 67 1)) 3 0)) 62 (up (up (up (up (up (m.2.1 62) 0 (m.2.1 67 0)) 2 0) 1 (m.2.1 67 1)) 3 0) 4 (m.1 30))) 62 (up (up (up (up (up (up (m.2.1 62) 0 (m.2.1 67 0)) 2 0) 1 (m.2.1 67 1)) 3 0) 4 (m.1 30)) 5 (m.1 28))) := fr_A hf20 62 _ rfl
        refine g_aload_n (n := 0) rfl rfl ?_
        refine g_getf (v := vR 62) rfl (kl_61 _) rfl ?_
        refine g_bipush (by decide) rfl ?_
        refine g_aload_n (n := 0) rfl rfl ?_
        refine g_getf (v := vI (m.1 29)) rfl (kl_61 _) rfl ?_
        refine g_iAst (f := up (up (up (up (up (up (m.2.1 62) 0 (m.2.1 67 0)) 2 0) 1 (m.2.1 67 1)) 3 0) 4 (m.1 30)) 5 (m.1 28)) (m' := (kA (kA (kA (kA (kA (kA (kA m 62 (up (m.2.1 62) 0 (m.2.1 67 0))) 62 (up (up (m.2.1 62) 0 (m.2.1 67 0)) 2 0)) 62 (up (up (up (m.2.1 62) 0 (m.2.1 67 0)) 2 0) 1 (m.2.1 67 1))) 62 (up (up (up (up (m.2.1 62) 0 (m.2.1 67 0)) 2 0) 1 (m.2.1 67 1)) 3 0)) 62 (up (up (up (up (up (m.2.1 62) 0 (m.2.1 67 0)) 2 0) 1 (m.2.1 67 1)) 3 0) 4 (m.1 30))) 62 (up (up (up (up (up (up (m.2.1 62) 0 (m.2.1 67 0)) 2 0) 1 (m.2.1 67 1)) 3 0) 4 (m.1 30)) 5 (m.1 28))) 62 (up (up (up (up (up (up (up (m.2.1 62) 0 (m.2.1 67 0)) 2 0) 1 (m.2.1 67 1)) 3 0) 4 (m.1 30)) 5 (m.1 28)) 6 (m.1 29)))) rfl (kl_62 _) (by decide) (by omega) (by omega) (kA_62 _ _) ?_
        have hm23 : kI (kA (kA (kA (kA (kA (kA (kA m 62 (up (m.2.1 62) 0 (m.2.1 67 0))) 62 (up (up (m.2.1 62) 0 (m.2.1 67 0)) 2 0)) 62 (up (up (up (m.2.1 62) 0 (m.2.1 67 0)) 2 0) 1 (m.2.1 67 1))) 62 (up (up (up (up (m.2.1 62) 0 (m.2.1 67 0)) 2 0) 1 (m.2.1 67 1)) 3 0)) 62 (up (up (up (up (up (m.2.1 62) 0 (m.2.1 67 0)) 2 0) 1 (m.2.1 67 1)) 3 0) 4 (m.1 30))) 62 (up (up (up (up (up (up (m.2.1 62) 0 (m.2.1 67 0)) 2 0) 1 (m.2.1 67 1)) 3 0) 4 (m.1 30)) 5 (m.1 28))) 62 (up (up (up (up (up (up (up (m.2.1 62) 0 (m.2.1 67 0)) 2 0) 1 (m.2.1 67 1)) 3 0) 4 (m.1 30)) 5 (m.1 28)) 6 (m.1 29))) := kI_U hm21 62 rfl (show ((-2147483648) : Int) ≤ m.1 29 by omega) (show m.1 29 ≤ (2147483647 : Int) by omega)
        have hf24 : fr [] [62] m (kA (kA (kA (kA (kA (kA (kA m 62 (up (m.2.1 62) 0 (m.2.1 67 0))) 62 (up (up (m.2.1 62) 0 (m.2.1 67 0)) 2 0)) 62 (up (up (up (m.2.1 62) 0 (m.2.1 67 0)) 2 0) 1 (m.2.1 67 1))) 62 (up (up (up (up (m.2.1 62) 0 (m.2.1 67 0)) 2 0) 1 (m.2.1 67 1)) 3 0)) 62 (up (up (up (up (up (m.2.1 62) 0 (m.2.1 67 0)) 2 0) 1 (m.2.1 67 1)) 3 0) 4 (m.1 30))) 62 (up (up (up (up (up (up (m.2.1 62) 0 (m.2.1 67 0)) 2 0) 1 (m.2.1 67 1)) 3 0) 4 (m.1 30)) 5 (m.1 28))) 62 (up (up (up (up (up (up (up (m.2.1 62) 0 (m.2.1 67 0)) 2 0) 1 (m.2.1 67 1)) 3 0) 4 (m.1 30)) 5 (m.1 28)) 6 (m.1 29))) := fr_A hf22 62 _ rfl
        refine g_aload_n (n := 0) rfl rfl ?_
        refine g_getf (v := vR 62) rfl (kl_61 _) rfl ?_
        refine g_bipush (by decide) rfl ?_
        refine g_iconst rfl ?_
        refine g_iAst (f := up (up (up (up (up (up (up (m.2.1 62) 0 (m.2.1 67 0)) 2 0) 1 (m.2.1 67 1)) 3 0) 4 (m.1 30)) 5 (m.1 28)) 6 (m.1 29)) (m' := (kA (kA (kA (kA (kA (kA (kA (kA m 62 (up (m.2.1 62) 0 (m.2.1 67 0))) 62 (up (up (m.2.1 62) 0 (m.2.1 67 0)) 2 0)) 62 (up (up (up (m.2.1 62) 0 (m.2.1 67 0)) 2 0) 1 (m.2.1 67 1))) 62 (up (up (up (up (m.2.1 62) 0 (m.2.1 67 0)) 2 0) 1 (m.2.1 67 1)) 3 0)) 62 (up (up (up (up (up (m.2.1 62) 0 (m.2.1 67 0)) 2 0) 1 (m.2.1 67 1)) 3 0) 4 (m.1 30))) 62 (up (up (up (up (up (up (m.2.1 62) 0 (m.2.1 67 0)) 2 0) 1 (m.2.1 67 1)) 3 0) 4 (m.1 30)) 5 (m.1 28))) 62 (up (up (up (up (up (up (up (m.2.1 62) 0 (m.2.1 67 0)) 2 0) 1 (m.2.1 67 1)) 3 0) 4 (m.1 30)) 5 (m.1 28)) 6 (m.1 29))) 62 (up (up (up (up (up (up (up (up (m.2.1 62) 0 (m.2.1 67 0)) 2 0) 1 (m.2.1 67 1)) 3 0) 4 (m.1 30)) 5 (m.1 28)) 6 (m.1 29)) 7 0))) rfl (kl_62 _) (by decide) (by omega) (by omega) (kA_62 _ _) ?_
        have hm25 : kI (kA (kA (kA (kA (kA (kA (kA (kA m 62 (up (m.2.1 62) 0 (m.2.1 67 0))) 62 (up (up (m.2.1 62) 0 (m.2.1 67 0)) 2 0)) 62 (up (up (up (m.2.1 62) 0 (m.2.1 67 0)) 2 0) 1 (m.2.1 67 1))) 62 (up (up (up (up (m.2.1 62) 0 (m.2.1 67 0)) 2 0) 1 (m.2.1 67 1)) 3 0)) 62 (up (up (up (up (up (m.2.1 62) 0 (m.2.1 67 0)) 2 0) 1 (m.2.1 67 1)) 3 0) 4 (m.1 30))) 62 (up (up (up (up (up (up (m.2.1 62) 0 (m.2.1 67 0)) 2 0) 1 (m.2.1 67 1)) 3 0) 4 (m.1 30)) 5 (m.1 28))) 62 (up (up (up (up (up (up (up (m.2.1 62) 0 (m.2.1 67 0)) 2 0) 1 (m.2.1 67 1)) 3 0) 4 (m.1 30)) 5 (m.1 28)) 6 (m.1 29))) 62 (up (up (up (up (up (up (up (up (m.2.1 62) 0 (m.2.1 67 0)) 2 0) 1 (m.2.1 67 1)) 3 0) 4 (m.1 30)) 5 (m.1 28)) 6 (m.1 29)) 7 0)) := kI_U hm23 62 rfl (show ((-2147483648) : Int) ≤ 0 by omega) (show 0 ≤ (2147483647 : Int) by omega)
        have hf26 : fr [] [62] m (kA (kA (kA (kA (kA (kA (kA (kA m 62 (up (m.2.1 62) 0 (m.2.1 67 0))) 62 (up (up (m.2.1 62) 0 (m.2.1 67 0)) 2 0)) 62 (up (up (up (m.2.1 62) 0 (m.2.1 67 0)) 2 0) 1 (m.2.1 67 1))) 62 (up (up (up (up (m.2.1 62) 0 (m.2.1 67 0)) 2 0) 1 (m.2.1 67 1)) 3 0)) 62 (up (up (up (up (up (m.2.1 62) 0 (m.2.1 67 0)) 2 0) 1 (m.2.1 67 1)) 3 0) 4 (m.1 30))) 62 (up (up (up (up (up (up (m.2.1 62) 0 (m.2.1 67 0)) 2 0) 1 (m.2.1 67 1)) 3 0) 4 (m.1 30)) 5 (m.1 28))) 62 (up (up (up (up (up (up (up (m.2.1 62) 0 (m.2.1 67 0)) 2 0) 1 (m.2.1 67 1)) 3 0) 4 (m.1 30)) 5 (m.1 28)) 6 (m.1 29))) 62 (up (up (up (up (up (up (up (up (m.2.1 62) 0 (m.2.1 67 0)) 2 0) 1 (m.2.1 67 1)) 3 0) 4 (m.1 30)) 5 (m.1 28)) 6 (m.1 29)) 7 0)) := fr_A hf24 62 _ rfl
        refine g_vret rfl rfl ?_
        exact ⟨_, rfl, hm25, hf26, rfl, fun j hj => by show (up (up (up (up (up (up (up (up (m.2.1 62) 0 (m.2.1 67 0)) 2 0) 1 (m.2.1 67 1)) 3 0) 4 (m.1 30)) 5 (m.1 28)) 6 (m.1 29)) 7 0) j = m.2.1 62 j; rw [up_ne _ (by omega), up_ne _ (by omega), up_ne _ (by omega), up_ne _ (by omega), up_ne _ (by omega), up_ne _ (by omega), up_ne _ (by omega), up_ne _ (by omega)]⟩
      · intro kk27
        exfalso; omega
