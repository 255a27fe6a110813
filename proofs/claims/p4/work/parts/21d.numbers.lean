/-! ===== contracts: the model, numbers of standings ===== -/
def k4 (m : kM) : Prop := pcn (m.1 28) ≤ 4
theorem k4_fr {SF SA : List Nat} {m m' : kM} (h : fr SF SA m m') (h1 : SF.contains 28 = false) (_ : SA.contains 0 = SA.contains 0) (h4 : k4 m) : k4 m' := by
  unfold k4
  rw [h.1 28 h1]
  exact h4
def mayq (n h s a : Int) : Prop := (a < 4 ∧ ((a = 1 ∧ h = 2) ∨ (a = 3 ∧ h = 1) ∨ ((a = 0 ∨ a = 2) ∧ h = 0))) ∨ (4 ≤ a ∧ a < 44 ∧ (a - 4) % 10 < n ∧ ((a < 14 ∧ h = 1) ∨ (14 ≤ a ∧ a < 34 ∧ h = 2) ∨ (34 ≤ a ∧ h = 0 ∧ 0 < s)))
theorem may_0 {D : Int → Int} {n kit a : Int} {x : kS} (h0 : 0 ≤ a) (hn : ¬ mayq n x.2.2.1 x.2.2.2.2.2.2 a) : stp_0 D n kit x a = none := by
  unfold mayq at hn
  unfold stp_0
  split
  · unfold stay_0
    (repeat' split) <;> first | rfl | (exfalso; omega)
  · split
    · rfl
    · split
      · unfold hand_0
        rw [if_pos (Or.inl (by omega))]
      · split
        · unfold goS_0
          rw [if_pos (Or.inr (Or.inl (by omega)))]
        · split
          · unfold goB_0
            rw [if_pos (Or.inr (Or.inl (by omega)))]
          · unfold goX_0
            by_cases q : x.2.2.1 = 0
            · rw [if_pos (Or.inr (Or.inr (Or.inl (by omega))))]
            · rw [if_pos (Or.inr (Or.inl q))]
theorem may_1 {D : Int → Int} {n kit a : Int} {x : kS} (h0 : 0 ≤ a) (hn : ¬ mayq n x.2.2.2.1 x.2.2.2.2.2.2 a) : stp_1 D n kit x a = none := by
  unfold mayq at hn
  unfold stp_1
  split
  · unfold stay_1
    (repeat' split) <;> first | rfl | (exfalso; omega)
  · split
    · rfl
    · split
      · unfold hand_1
        rw [if_pos (Or.inl (by omega))]
      · split
        · unfold goS_1
          rw [if_pos (Or.inr (Or.inl (by omega)))]
        · split
          · unfold goB_1
            rw [if_pos (Or.inr (Or.inl (by omega)))]
          · unfold goX_1
            by_cases q : x.2.2.2.1 = 0
            · rw [if_pos (Or.inr (Or.inr (Or.inl (by omega))))]
            · rw [if_pos (Or.inr (Or.inl q))]
theorem may_none {D f : Int → Int} {n kit c : Int} (h0 : 0 ≤ c) (_ : c ≤ 99) (h : (c < 50 ∧ ¬ mayq n (f 26) (f 30) c) ∨ (50 ≤ c ∧ ¬ mayq n (f 27) (f 30) (c - 50))) : stp D n kit (kr3 f) c = none := by
  unfold stp
  rcases h with ⟨h1, h2⟩ | ⟨h1, h2⟩
  · rw [if_pos h1]
    exact may_0 h0 h2
  · rw [if_neg (by omega)]
    exact may_1 (by omega) h2
theorem d_hungryCode {V : cg_V} {d q : Nat} (hd : 1 ≤ d) (hq : 21 ≤ q) {m : kM} (hm : kI m) {u : Int} (h_u : 0 ≤ u ∧ u ≤ 63) : cg_S V d q mX10_hungryCode [vR 61, vI u] (kl m) (R_I (fun z m' => (m = m') ∧ (z = HC (m.1 28) u 6) ∧ (0 ≤ z) ∧ (z ≤ 63))) := by
  refine cg_of (List.mem_of_getElem? (show ae_MT[155]? = some mX10_hungryCode from rfl)) (Nat.le_of_ble_eq_true rfl) ?_
  show cg_G V mX10_hungryCode d q _ 0 [(0, vR 61), (1, vI u)] [] (kl m) 0 0
  have h1 : 0 ≤ m.1 28 ∧ m.1 28 ≤ 63 := hm.1 28
  refine g_iconst rfl ?_
  refine g_istore_n (n := 2) (lo' := [(0, vR 61), (1, vI u)]) rfl rfl ?_
  refine g_iconst rfl ?_
  refine g_istore_n (n := 3) (lo' := [(2, vI 0), (0, vR 61), (1, vI u)]) rfl rfl ?_
  refine g_iconst rfl ?_
  refine g_istore (n := 4) (lo' := [(3, vI 0), (2, vI 0), (0, vR 61), (1, vI u)]) rfl rfl ?_
  have L7_1 : ∀ (n7_1 : Nat) (c_1 : Int) (n_1 : Int) (r_1 : Int), (0 ≤ c_1 ∧ c_1 ≤ 63) → (0 ≤ n_1 ∧ n_1 ≤ 6) → (0 ≤ r_1 ∧ r_1 ≤ 6) → (c_1 = HC (m.1 28) u (Int.toNat r_1)) → (n_1 = HN (m.1 28) (Int.toNat r_1)) → (n_1 ≤ r_1) → ((6 - r_1).toNat) = n7_1 → cg_G V mX10_hungryCode d q (R_I (fun z m' => (m = m') ∧ (z = HC (m.1 28) u 6) ∧ (0 ≤ z) ∧ (z ≤ 63))) 7 [(4, vI r_1), (3, vI n_1), (2, vI c_1), (0, vR 61), (1, vI u)] [] (kl m) 0 0 := by
    intro n7_1
    induction n7_1 using Nat.strongRecOn with
    | _ n7_1 ih7_1 =>
      intro c_1 n_1 r_1 i2 i3 i4 i5 i6 i7 q8
      refine g_iload (n := 4) rfl rfl ?_
      refine g_bipush (by decide) rfl ?_
      refine g_icmp_ge (by omega) (by omega) (by decide) (by decide) rfl ?_ ?_
      · intro k9
        refine g_iload_n (n := 2) rfl rfl ?_
        refine g_iret rfl rfl ?_
        exact ⟨_, _, rfl, rfl, (by have h9 : Int.toNat r_1 = 6 := (by omega); rw [← h9]; assumption), (by omega), (by omega)⟩
      · intro k10
        refine g_aload_n (n := 0) rfl rfl ?_
        refine g_getf (v := vI (m.1 28)) rfl (kl_61 _) rfl ?_
        refine g_iload (n := 4) rfl rfl ?_
        refine c_sI (ps := [vI r_1, vI (m.1 28)]) (r := []) (as := [vI (m.1 28), vI r_1]) (cs' := 0) (sl' := 0) rfl rfl rfl rfl rfl rfl (d_has (d := d - 1) (q := q - (2 + 19)) (by omega) (by omega) hm (s := m.1 28) (k := r_1) (show (-2147483648) ≤ m.1 28 ∧ m.1 28 ≤ 2147483647 by omega) (show 0 ≤ r_1 ∧ r_1 ≤ 5 by omega)) (by omega) (show 2 + 19 ≤ q by omega) (Nat.le_of_ble_eq_true rfl) (Nat.le_of_ble_eq_true rfl) rfl rfl rfl ?_
        rintro z11 m12 ⟨rfl, p14, p15, p16⟩
        have h17 : z11 = (hb (m.1 28) r_1) := p14
        subst h17
        refine g_if_eq (by omega) (by omega) rfl ?_ ?_
        · intro k18
          refine g_iinc (n := 4) (lo' := [(3, vI n_1), (2, vI c_1), (0, vR 61), (1, vI u)]) rfl rfl rfl ?_
          refine g_goto rfl ?_
          exact ih7_1 _ (by omega) c_1 n_1 (r_1 + 1) (by omega) (by omega) (by omega) (by rw [HC_step (by omega), ← i5, ← i6]; repeat (split <;> try (exfalso; omega)); all_goals omega) (by rw [HN_step (by omega), ← i6]; omega) (by omega) rfl
        · intro k19
          refine g_iload_n (n := 2) rfl rfl ?_
          refine g_iload_n (n := 1) rfl rfl ?_
          refine g_iload (n := 4) rfl rfl ?_
          refine c_sI (ps := [vI r_1, vI u]) (r := [vI c_1]) (as := [vI u, vI r_1]) (cs' := 0) (sl' := 0) rfl rfl rfl rfl rfl rfl (d_has (d := d - 1) (q := q - (2 + 19)) (by omega) (by omega) hm (s := u) (k := r_1) (show (-2147483648) ≤ u ∧ u ≤ 2147483647 by omega) (show 0 ≤ r_1 ∧ r_1 ≤ 5 by omega)) (by omega) (show 2 + 19 ≤ q by omega) (Nat.le_of_ble_eq_true rfl) (Nat.le_of_ble_eq_true rfl) rfl rfl rfl ?_
          rintro z20 m21 ⟨rfl, p23, p24, p25⟩
          have h26 : z20 = (hb u r_1) := p23
          subst h26
          refine g_if_eq (by omega) (by omega) rfl ?_ ?_
          · intro k27
            refine g_iconst rfl ?_
            refine g_ior rfl ?_
            intro z28 h29 h30 h31
            have h32 : z28 = c_1 := b_or0 h29 (by omega) (by omega)
            refine g_istore_n (n := 2) (lo' := [(4, vI r_1), (3, vI n_1), (0, vR 61), (1, vI u)]) rfl rfl ?_
            refine g_iinc (n := 3) (lo' := [(2, vI z28), (4, vI r_1), (0, vR 61), (1, vI u)]) rfl rfl rfl ?_
            refine g_iinc (n := 4) (lo' := [(3, vI (n_1 + 1)), (2, vI z28), (0, vR 61), (1, vI u)]) rfl rfl rfl ?_
            refine g_goto rfl ?_
            exact ih7_1 _ (by omega) z28 (n_1 + 1) (r_1 + 1) (by omega) (by omega) (by omega) (by rw [HC_step (by omega), ← i5, ← i6]; repeat (split <;> try (exfalso; omega)); all_goals omega) (by rw [HN_step (by omega), ← i6]; omega) (by omega) rfl
          · intro k33
            refine g_iconst rfl ?_
            refine g_iload_n (n := 3) rfl rfl ?_
            refine g_ishl rfl ?_
            intro z34 h35 h36 h37
            refine g_goto rfl ?_
            refine g_ior rfl ?_
            intro z39 h40 h41 h42
            have h43 : z39 = stb c_1 n_1 := b_stb h35 h40 (by omega) (by omega) (by omega) (by omega)
            have h44 := b_stb_rng (u := c_1) (r := n_1) (by omega) (by omega) (by omega) (by omega)
            refine g_istore_n (n := 2) (lo' := [(4, vI r_1), (3, vI n_1), (0, vR 61), (1, vI u)]) rfl rfl ?_
            refine g_iinc (n := 3) (lo' := [(2, vI z39), (4, vI r_1), (0, vR 61), (1, vI u)]) rfl rfl rfl ?_
            refine g_iinc (n := 4) (lo' := [(3, vI (n_1 + 1)), (2, vI z39), (0, vR 61), (1, vI u)]) rfl rfl rfl ?_
            refine g_goto rfl ?_
            exact ih7_1 _ (by omega) z39 (n_1 + 1) (r_1 + 1) (by omega) (by omega) (by omega) (by rw [HC_step (by omega), ← i5, ← i6]; repeat (split <;> try (exfalso; omega)); all_goals omega) (by rw [HN_step (by omega), ← i6]; omega) (by omega) rfl
  exact L7_1 _ 0 0 0 (by omega) (by omega) (by omega) rfl rfl (by omega) rfl
theorem d_hungryOf {V : cg_V} {d q : Nat} (hd : 1 ≤ d) (hq : 21 ≤ q) {m : kM} (hm : kI m) {u : Int} (h_u : 0 ≤ u ∧ u ≤ 15) : cg_S V d q mX10_hungryOf [vR 61, vI u] (kl m) (R_I (fun z m' => (m = m') ∧ (z = HO (m.1 28) u 6) ∧ (0 ≤ z) ∧ (z ≤ 63))) := by
  refine cg_of (List.mem_of_getElem? (show ae_MT[156]? = some mX10_hungryOf from rfl)) (Nat.le_of_ble_eq_true rfl) ?_
  show cg_G V mX10_hungryOf d q _ 0 [(0, vR 61), (1, vI u)] [] (kl m) 0 0
  have h1 : 0 ≤ m.1 28 ∧ m.1 28 ≤ 63 := hm.1 28
  refine g_iconst rfl ?_
  refine g_istore_n (n := 2) (lo' := [(0, vR 61), (1, vI u)]) rfl rfl ?_
  refine g_iconst rfl ?_
  refine g_istore_n (n := 3) (lo' := [(2, vI 0), (0, vR 61), (1, vI u)]) rfl rfl ?_
  refine g_iconst rfl ?_
  refine g_istore (n := 4) (lo' := [(3, vI 0), (2, vI 0), (0, vR 61), (1, vI u)]) rfl rfl ?_
  have L7_1 : ∀ (n7_1 : Nat) (c_1 : Int) (n_1 : Int) (r_1 : Int), (0 ≤ c_1 ∧ c_1 ≤ 63) → (0 ≤ n_1 ∧ n_1 ≤ 6) → (0 ≤ r_1 ∧ r_1 ≤ 6) → (c_1 = HO (m.1 28) u (Int.toNat r_1)) → (n_1 = HN (m.1 28) (Int.toNat r_1)) → (n_1 ≤ r_1) → ((6 - r_1).toNat) = n7_1 → cg_G V mX10_hungryOf d q (R_I (fun z m' => (m = m') ∧ (z = HO (m.1 28) u 6) ∧ (0 ≤ z) ∧ (z ≤ 63))) 7 [(4, vI r_1), (3, vI n_1), (2, vI c_1), (0, vR 61), (1, vI u)] [] (kl m) 0 0 := by
    intro n7_1
    induction n7_1 using Nat.strongRecOn with
    | _ n7_1 ih7_1 =>
      intro c_1 n_1 r_1 i2 i3 i4 i5 i6 i7 q8
      refine g_iload (n := 4) rfl rfl ?_
      refine g_bipush (by decide) rfl ?_
      refine g_icmp_ge (by omega) (by omega) (by decide) (by decide) rfl ?_ ?_
      · intro k9
        refine g_iload_n (n := 2) rfl rfl ?_
        refine g_iret rfl rfl ?_
        exact ⟨_, _, rfl, rfl, (by have h9 : Int.toNat r_1 = 6 := (by omega); rw [← h9]; assumption), (by omega), (by omega)⟩
      · intro k10
        refine g_aload_n (n := 0) rfl rfl ?_
        refine g_getf (v := vI (m.1 28)) rfl (kl_61 _) rfl ?_
        refine g_iload (n := 4) rfl rfl ?_
        refine c_sI (ps := [vI r_1, vI (m.1 28)]) (r := []) (as := [vI (m.1 28), vI r_1]) (cs' := 0) (sl' := 0) rfl rfl rfl rfl rfl rfl (d_has (d := d - 1) (q := q - (2 + 19)) (by omega) (by omega) hm (s := m.1 28) (k := r_1) (show (-2147483648) ≤ m.1 28 ∧ m.1 28 ≤ 2147483647 by omega) (show 0 ≤ r_1 ∧ r_1 ≤ 5 by omega)) (by omega) (show 2 + 19 ≤ q by omega) (Nat.le_of_ble_eq_true rfl) (Nat.le_of_ble_eq_true rfl) rfl rfl rfl ?_
        rintro z11 m12 ⟨rfl, p14, p15, p16⟩
        have h17 : z11 = (hb (m.1 28) r_1) := p14
        subst h17
        refine g_if_eq (by omega) (by omega) rfl ?_ ?_
        · intro k18
          refine g_iinc (n := 4) (lo' := [(3, vI n_1), (2, vI c_1), (0, vR 61), (1, vI u)]) rfl rfl rfl ?_
          refine g_goto rfl ?_
          exact ih7_1 _ (by omega) c_1 n_1 (r_1 + 1) (by omega) (by omega) (by omega) (by rw [HO_step (by omega), ← i5, ← i6]; repeat (split <;> try (exfalso; omega)); all_goals omega) (by rw [HN_step (by omega), ← i6]; omega) (by omega) rfl
        · intro k19
          refine g_iload_n (n := 2) rfl rfl ?_
          refine g_iload_n (n := 1) rfl rfl ?_
          refine g_iload_n (n := 3) rfl rfl ?_
          refine c_sI (ps := [vI n_1, vI u]) (r := [vI c_1]) (as := [vI u, vI n_1]) (cs' := 0) (sl' := 0) rfl rfl rfl rfl rfl rfl (d_has (d := d - 1) (q := q - (2 + 19)) (by omega) (by omega) hm (s := u) (k := n_1) (show (-2147483648) ≤ u ∧ u ≤ 2147483647 by omega) (show 0 ≤ n_1 ∧ n_1 ≤ 5 by omega)) (by omega) (show 2 + 19 ≤ q by omega) (Nat.le_of_ble_eq_true rfl) (Nat.le_of_ble_eq_true rfl) rfl rfl rfl ?_
          rintro z20 m21 ⟨rfl, p23, p24, p25⟩
          have h26 : z20 = (hb u n_1) := p23
          subst h26
          refine g_if_eq (by omega) (by omega) rfl ?_ ?_
          · intro k27
            refine g_iconst rfl ?_
            refine g_ior rfl ?_
            intro z28 h29 h30 h31
            have h32 : z28 = c_1 := b_or0 h29 (by omega) (by omega)
            refine g_istore_n (n := 2) (lo' := [(4, vI r_1), (3, vI n_1), (0, vR 61), (1, vI u)]) rfl rfl ?_
            refine g_iinc (n := 3) (lo' := [(2, vI z28), (4, vI r_1), (0, vR 61), (1, vI u)]) rfl rfl rfl ?_
            refine g_iinc (n := 4) (lo' := [(3, vI (n_1 + 1)), (2, vI z28), (0, vR 61), (1, vI u)]) rfl rfl rfl ?_
            refine g_goto rfl ?_
            exact ih7_1 _ (by omega) z28 (n_1 + 1) (r_1 + 1) (by omega) (by omega) (by omega) (by rw [HO_step (by omega), ← i5, ← i6]; repeat (split <;> try (exfalso; omega)); all_goals omega) (by rw [HN_step (by omega), ← i6]; omega) (by omega) rfl
          · intro k33
            refine g_iconst rfl ?_
            refine g_iload (n := 4) rfl rfl ?_
            refine g_ishl rfl ?_
            intro z34 h35 h36 h37
            refine g_goto rfl ?_
            refine g_ior rfl ?_
            intro z39 h40 h41 h42
            have h43 : z39 = stb c_1 r_1 := b_stb h35 h40 (by omega) (by omega) (by omega) (by omega)
            have h44 := b_stb_rng (u := c_1) (r := r_1) (by omega) (by omega) (by omega) (by omega)
            refine g_istore_n (n := 2) (lo' := [(4, vI r_1), (3, vI n_1), (0, vR 61), (1, vI u)]) rfl rfl ?_
            refine g_iinc (n := 3) (lo' := [(2, vI z39), (4, vI r_1), (0, vR 61), (1, vI u)]) rfl rfl rfl ?_
            refine g_iinc (n := 4) (lo' := [(3, vI (n_1 + 1)), (2, vI z39), (0, vR 61), (1, vI u)]) rfl rfl rfl ?_
            refine g_goto rfl ?_
            exact ih7_1 _ (by omega) z39 (n_1 + 1) (r_1 + 1) (by omega) (by omega) (by omega) (by rw [HO_step (by omega), ← i5, ← i6]; repeat (split <;> try (exfalso; omega)); all_goals omega) (by rw [HN_step (by omega), ← i6]; omega) (by omega) rfl
  exact L7_1 _ 0 0 0 (by omega) (by omega) (by omega) rfl rfl (by omega) rfl
theorem d_numberOf_4 {V : cg_V} {d q : Nat} (hd : 2 ≤ d) (hq : 45 ≤ q) {m : kM} (hm : kI m) (h_k4 : k4 m) (hw : kw (kr4 (m.2.1 62))) : cg_S V d q mX10_numberOf [vR 61, vI 4] (kl m) (R_I (fun z m' => (m = m') ∧ (z = num (m.1 28) (kr4 (m.2.1 62))) ∧ (0 ≤ z) ∧ (z ≤ 64511))) := by
  refine cg_of (List.mem_of_getElem? (show ae_MT[157]? = some mX10_numberOf from rfl)) (Nat.le_of_ble_eq_true rfl) ?_
  show cg_G V mX10_numberOf d q _ 0 [(0, vR 61), (1, vI 4)] [] (kl m) 0 0
  have h1 : 0 ≤ m.1 28 ∧ m.1 28 ≤ 63 := hm.1 28
  have w0 : 0 ≤ m.2.1 62 32 ∧ m.2.1 62 32 ≤ 5 := hw.1
  have w1 : 0 ≤ m.2.1 62 33 ∧ m.2.1 62 33 ≤ 5 := hw.2.1
  have w2 : 0 ≤ m.2.1 62 34 ∧ m.2.1 62 34 ≤ 2 := hw.2.2.1
  have w3 : 0 ≤ m.2.1 62 35 ∧ m.2.1 62 35 ≤ 2 := hw.2.2.2.1
  have w4 : (-1) ≤ m.2.1 62 36 ∧ m.2.1 62 36 ≤ 5 := hw.2.2.2.2.1
  have w5 : 0 ≤ m.2.1 62 37 ∧ m.2.1 62 37 ≤ 63 := hw.2.2.2.2.2.1
  have w6 : 0 ≤ m.2.1 62 38 ∧ m.2.1 62 38 ≤ 3 := hw.2.2.2.2.2.2.1
  have w7 : 0 ≤ m.2.1 62 36 ∨ m.2.1 62 34 = 2 ∨ m.2.1 62 35 = 2 := hw.2.2.2.2.2.2.2
  have w8 : 0 ≤ m.1 28 ∧ m.1 28 ≤ 63 := hm.1 28
  have w9 := HC_rng (t := m.1 28) (u := m.2.1 62 37) (by omega) (by omega) (by omega) (by omega) h_k4
  refine g_bipush (by decide) rfl ?_
  refine g_iload_n (n := 1) rfl rfl ?_
  refine g_imulE (z := 32) (by decide) rfl ?_
  refine g_istore_n (n := 2) (lo' := [(0, vR 61), (1, vI 4)]) rfl rfl ?_
  refine g_aload_n (n := 0) rfl rfl ?_
  refine g_getf (v := vR 62) rfl (kl_61 _) rfl ?_
  refine g_iload_n (n := 2) rfl rfl ?_
  refine g_iconst rfl ?_
  refine g_iaddE (z := 34) (by decide) rfl ?_
  refine g_ialE (f := m.2.1 62) (v := m.2.1 62 34) rfl (kl_62 _) (by decide) (by decide) (by decide) rfl ?_
  refine g_istore_n (n := 3) (lo' := [(2, vI 32), (0, vR 61), (1, vI 4)]) rfl rfl ?_
  refine g_aload_n (n := 0) rfl rfl ?_
  refine g_getf (v := vR 62) rfl (kl_61 _) rfl ?_
  refine g_iload_n (n := 2) rfl rfl ?_
  refine g_iconst rfl ?_
  refine g_iaddE (z := 34) (by decide) rfl ?_
  refine g_iconst rfl ?_
  refine g_iaddE (z := 35) (by decide) rfl ?_
  refine g_ialE (f := m.2.1 62) (v := m.2.1 62 35) rfl (kl_62 _) (by decide) (by decide) (by decide) rfl ?_
  refine g_istore (n := 4) (lo' := [(3, vI (m.2.1 62 34)), (2, vI 32), (0, vR 61), (1, vI 4)]) rfl rfl ?_
  refine g_iload_n (n := 3) rfl rfl ?_
  refine g_iconst rfl ?_
  refine g_icmp_ne (by omega) (by omega) (by decide) (by decide) rfl ?_ ?_
  · intro k2
    refine g_iload (n := 4) rfl rfl ?_
    refine g_iconst rfl ?_
    refine g_icmp_ne (by omega) (by omega) (by decide) (by decide) rfl ?_ ?_
    · intro k3
      refine g_iload_n (n := 3) rfl rfl ?_
      refine g_iconst rfl ?_
      refine g_imul rfl ?_
      refine g_iload (n := 4) rfl rfl ?_
      refine g_iadd rfl ?_
      refine g_bipush (by decide) rfl ?_
      refine g_imul rfl ?_
      refine g_aload_n (n := 0) rfl rfl ?_
      refine g_getf (v := vR 62) rfl (kl_61 _) rfl ?_
      refine g_iload_n (n := 2) rfl rfl ?_
      refine g_iconst rfl ?_
      refine g_iaddE (z := 36) (by decide) rfl ?_
      refine g_ialE (f := m.2.1 62) (v := m.2.1 62 36) rfl (kl_62 _) (by decide) (by decide) (by decide) rfl ?_
      refine g_iadd rfl ?_
      refine g_istore (n := 5) (lo' := [(4, vI (m.2.1 62 35)), (3, vI (m.2.1 62 34)), (2, vI 32), (0, vR 61), (1, vI 4)]) rfl rfl ?_
      refine g_aload_n (n := 0) rfl rfl ?_
      refine g_getf (v := vR 62) rfl (kl_61 _) rfl ?_
      refine g_iload_n (n := 2) rfl rfl ?_
      refine g_iconst rfl ?_
      refine g_iaddE (z := 32) (by decide) rfl ?_
      refine g_ialE (f := m.2.1 62) (v := m.2.1 62 32) rfl (kl_62 _) (by decide) (by decide) (by decide) rfl ?_
      refine g_bipush (by decide) rfl ?_
      refine g_imul rfl ?_
      refine g_aload_n (n := 0) rfl rfl ?_
      refine g_getf (v := vR 62) rfl (kl_61 _) rfl ?_
      refine g_iload_n (n := 2) rfl rfl ?_
      refine g_iconst rfl ?_
      refine g_iaddE (z := 32) (by decide) rfl ?_
      refine g_iconst rfl ?_
      refine g_iaddE (z := 33) (by decide) rfl ?_
      refine g_ialE (f := m.2.1 62) (v := m.2.1 62 33) rfl (kl_62 _) (by decide) (by decide) (by decide) rfl ?_
      refine g_iadd rfl ?_
      refine g_bipush (by decide) rfl ?_
      refine g_imul rfl ?_
      refine g_iload (n := 5) rfl rfl ?_
      refine g_iadd rfl ?_
      refine g_bipush (by decide) rfl ?_
      refine g_imul rfl ?_
      refine g_aload_n (n := 0) rfl rfl ?_
      refine g_aload_n (n := 0) rfl rfl ?_
      refine g_getf (v := vR 62) rfl (kl_61 _) rfl ?_
      refine g_iload_n (n := 2) rfl rfl ?_
      refine g_iconst rfl ?_
      refine g_iaddE (z := 37) (by decide) rfl ?_
      refine g_ialE (f := m.2.1 62) (v := m.2.1 62 37) rfl (kl_62 _) (by decide) (by decide) (by decide) rfl ?_
      refine c_vI (i := 61) (ps := [vI (m.2.1 62 37)]) (r := [vI (((((m.2.1 62 32 * 6) + m.2.1 62 33) * 28) + ((((m.2.1 62 34 * 2) + m.2.1 62 35) * 6) + m.2.1 62 36)) * 16)]) (as := [vR 61, vI (m.2.1 62 37)]) (cs' := 0) (sl' := 0) rfl rfl rfl rfl rfl rfl (kl_61 _) (d_hungryCode (d := d - 1) (q := q - (5 + 19)) (by omega) (by omega) hm (u := m.2.1 62 37) (show 0 ≤ m.2.1 62 37 ∧ m.2.1 62 37 ≤ 63 by omega)) (by omega) (show 5 + 19 ≤ q by omega) (Nat.le_of_ble_eq_true rfl) (Nat.le_of_ble_eq_true rfl) rfl rfl rfl ?_
      rintro z4 m5 ⟨rfl, p7, p8, p9⟩
      have h10 : z4 = (HC (m.1 28) (m.2.1 62 37) 6) := p7
      subst h10
      refine g_iadd rfl ?_
      refine g_iconst rfl ?_
      refine g_imul rfl ?_
      refine g_aload_n (n := 0) rfl rfl ?_
      refine g_getf (v := vR 62) rfl (kl_61 _) rfl ?_
      refine g_iload_n (n := 2) rfl rfl ?_
      refine g_bipush (by decide) rfl ?_
      refine g_iaddE (z := 38) (by decide) rfl ?_
      refine g_ialE (f := m.2.1 62) (v := m.2.1 62 38) rfl (kl_62 _) (by decide) (by decide) (by decide) rfl ?_
      refine g_iadd rfl ?_
      refine g_iret rfl rfl ?_
      exact ⟨_, _, rfl, rfl, (by dsimp only [num, th, kr4]; repeat (split <;> try (exfalso; omega)); all_goals omega), (by omega), (by omega)⟩
    · intro k11
      refine g_bipush (by decide) rfl ?_
      refine g_iload_n (n := 3) rfl rfl ?_
      refine g_iadd rfl ?_
      refine g_goto rfl ?_
      refine g_istore (n := 5) (lo' := [(4, vI (m.2.1 62 35)), (3, vI (m.2.1 62 34)), (2, vI 32), (0, vR 61), (1, vI 4)]) rfl rfl ?_
      refine g_aload_n (n := 0) rfl rfl ?_
      refine g_getf (v := vR 62) rfl (kl_61 _) rfl ?_
      refine g_iload_n (n := 2) rfl rfl ?_
      refine g_iconst rfl ?_
      refine g_iaddE (z := 32) (by decide) rfl ?_
      refine g_ialE (f := m.2.1 62) (v := m.2.1 62 32) rfl (kl_62 _) (by decide) (by decide) (by decide) rfl ?_
      refine g_bipush (by decide) rfl ?_
      refine g_imul rfl ?_
      refine g_aload_n (n := 0) rfl rfl ?_
      refine g_getf (v := vR 62) rfl (kl_61 _) rfl ?_
      refine g_iload_n (n := 2) rfl rfl ?_
      refine g_iconst rfl ?_
      refine g_iaddE (z := 32) (by decide) rfl ?_
      refine g_iconst rfl ?_
      refine g_iaddE (z := 33) (by decide) rfl ?_
      refine g_ialE (f := m.2.1 62) (v := m.2.1 62 33) rfl (kl_62 _) (by decide) (by decide) (by decide) rfl ?_
      refine g_iadd rfl ?_
      refine g_bipush (by decide) rfl ?_
      refine g_imul rfl ?_
      refine g_iload (n := 5) rfl rfl ?_
      refine g_iadd rfl ?_
      refine g_bipush (by decide) rfl ?_
      refine g_imul rfl ?_
      refine g_aload_n (n := 0) rfl rfl ?_
      refine g_aload_n (n := 0) rfl rfl ?_
      refine g_getf (v := vR 62) rfl (kl_61 _) rfl ?_
      refine g_iload_n (n := 2) rfl rfl ?_
      refine g_iconst rfl ?_
      refine g_iaddE (z := 37) (by decide) rfl ?_
      refine g_ialE (f := m.2.1 62) (v := m.2.1 62 37) rfl (kl_62 _) (by decide) (by decide) (by decide) rfl ?_
      refine c_vI (i := 61) (ps := [vI (m.2.1 62 37)]) (r := [vI (((((m.2.1 62 32 * 6) + m.2.1 62 33) * 28) + (26 + m.2.1 62 34)) * 16)]) (as := [vR 61, vI (m.2.1 62 37)]) (cs' := 0) (sl' := 0) rfl rfl rfl rfl rfl rfl (kl_61 _) (d_hungryCode (d := d - 1) (q := q - (5 + 19)) (by omega) (by omega) hm (u := m.2.1 62 37) (show 0 ≤ m.2.1 62 37 ∧ m.2.1 62 37 ≤ 63 by omega)) (by omega) (show 5 + 19 ≤ q by omega) (Nat.le_of_ble_eq_true rfl) (Nat.le_of_ble_eq_true rfl) rfl rfl rfl ?_
      rintro z12 m13 ⟨rfl, p15, p16, p17⟩
      have h18 : z12 = (HC (m.1 28) (m.2.1 62 37) 6) := p15
      subst h18
      refine g_iadd rfl ?_
      refine g_iconst rfl ?_
      refine g_imul rfl ?_
      refine g_aload_n (n := 0) rfl rfl ?_
      refine g_getf (v := vR 62) rfl (kl_61 _) rfl ?_
      refine g_iload_n (n := 2) rfl rfl ?_
      refine g_bipush (by decide) rfl ?_
      refine g_iaddE (z := 38) (by decide) rfl ?_
      refine g_ialE (f := m.2.1 62) (v := m.2.1 62 38) rfl (kl_62 _) (by decide) (by decide) (by decide) rfl ?_
      refine g_iadd rfl ?_
      refine g_iret rfl rfl ?_
      exact ⟨_, _, rfl, rfl, (by dsimp only [num, th, kr4]; repeat (split <;> try (exfalso; omega)); all_goals omega), (by omega), (by omega)⟩
  · intro k19
    refine g_bipush (by decide) rfl ?_
    refine g_iload (n := 4) rfl rfl ?_
    refine g_iadd rfl ?_
    refine g_goto rfl ?_
    refine g_istore (n := 5) (lo' := [(4, vI (m.2.1 62 35)), (3, vI (m.2.1 62 34)), (2, vI 32), (0, vR 61), (1, vI 4)]) rfl rfl ?_
    refine g_aload_n (n := 0) rfl rfl ?_
    refine g_getf (v := vR 62) rfl (kl_61 _) rfl ?_
    refine g_iload_n (n := 2) rfl rfl ?_
    refine g_iconst rfl ?_
    refine g_iaddE (z := 32) (by decide) rfl ?_
    refine g_ialE (f := m.2.1 62) (v := m.2.1 62 32) rfl (kl_62 _) (by decide) (by decide) (by decide) rfl ?_
    refine g_bipush (by decide) rfl ?_
    refine g_imul rfl ?_
    refine g_aload_n (n := 0) rfl rfl ?_
    refine g_getf (v := vR 62) rfl (kl_61 _) rfl ?_
    refine g_iload_n (n := 2) rfl rfl ?_
    refine g_iconst rfl ?_
    refine g_iaddE (z := 32) (by decide) rfl ?_
    refine g_iconst rfl ?_
    refine g_iaddE (z := 33) (by decide) rfl ?_
    refine g_ialE (f := m.2.1 62) (v := m.2.1 62 33) rfl (kl_62 _) (by decide) (by decide) (by decide) rfl ?_
    refine g_iadd rfl ?_
    refine g_bipush (by decide) rfl ?_
    refine g_imul rfl ?_
    refine g_iload (n := 5) rfl rfl ?_
    refine g_iadd rfl ?_
    refine g_bipush (by decide) rfl ?_
    refine g_imul rfl ?_
    refine g_aload_n (n := 0) rfl rfl ?_
    refine g_aload_n (n := 0) rfl rfl ?_
    refine g_getf (v := vR 62) rfl (kl_61 _) rfl ?_
    refine g_iload_n (n := 2) rfl rfl ?_
    refine g_iconst rfl ?_
    refine g_iaddE (z := 37) (by decide) rfl ?_
    refine g_ialE (f := m.2.1 62) (v := m.2.1 62 37) rfl (kl_62 _) (by decide) (by decide) (by decide) rfl ?_
    refine c_vI (i := 61) (ps := [vI (m.2.1 62 37)]) (r := [vI (((((m.2.1 62 32 * 6) + m.2.1 62 33) * 28) + (24 + m.2.1 62 35)) * 16)]) (as := [vR 61, vI (m.2.1 62 37)]) (cs' := 0) (sl' := 0) rfl rfl rfl rfl rfl rfl (kl_61 _) (d_hungryCode (d := d - 1) (q := q - (5 + 19)) (by omega) (by omega) hm (u := m.2.1 62 37) (show 0 ≤ m.2.1 62 37 ∧ m.2.1 62 37 ≤ 63 by omega)) (by omega) (show 5 + 19 ≤ q by omega) (Nat.le_of_ble_eq_true rfl) (Nat.le_of_ble_eq_true rfl) rfl rfl rfl ?_
    rintro z20 m21 ⟨rfl, p23, p24, p25⟩
    have h26 : z20 = (HC (m.1 28) (m.2.1 62 37) 6) := p23
    subst h26
    refine g_iadd rfl ?_
    refine g_iconst rfl ?_
    refine g_imul rfl ?_
    refine g_aload_n (n := 0) rfl rfl ?_
    refine g_getf (v := vR 62) rfl (kl_61 _) rfl ?_
    refine g_iload_n (n := 2) rfl rfl ?_
    refine g_bipush (by decide) rfl ?_
    refine g_iaddE (z := 38) (by decide) rfl ?_
    refine g_ialE (f := m.2.1 62) (v := m.2.1 62 38) rfl (kl_62 _) (by decide) (by decide) (by decide) rfl ?_
    refine g_iadd rfl ?_
    refine g_iret rfl rfl ?_
    exact ⟨_, _, rfl, rfl, (by dsimp only [num, th, kr4]; repeat (split <;> try (exfalso; omega)); all_goals omega), (by omega), (by omega)⟩
theorem d_numberOf_5 {V : cg_V} {d q : Nat} (hd : 2 ≤ d) (hq : 45 ≤ q) {m : kM} (hm : kI m) (h_k4 : k4 m) (hw : kw (kr5 (m.2.1 62))) : cg_S V d q mX10_numberOf [vR 61, vI 5] (kl m) (R_I (fun z m' => (m = m') ∧ (z = num (m.1 28) (kr5 (m.2.1 62))) ∧ (0 ≤ z) ∧ (z ≤ 64511))) := by
  refine cg_of (List.mem_of_getElem? (show ae_MT[157]? = some mX10_numberOf from rfl)) (Nat.le_of_ble_eq_true rfl) ?_
  show cg_G V mX10_numberOf d q _ 0 [(0, vR 61), (1, vI 5)] [] (kl m) 0 0
  have h1 : 0 ≤ m.1 28 ∧ m.1 28 ≤ 63 := hm.1 28
  have w0 : 0 ≤ m.2.1 62 40 ∧ m.2.1 62 40 ≤ 5 := hw.1
  have w1 : 0 ≤ m.2.1 62 41 ∧ m.2.1 62 41 ≤ 5 := hw.2.1
  have w2 : 0 ≤ m.2.1 62 42 ∧ m.2.1 62 42 ≤ 2 := hw.2.2.1
  have w3 : 0 ≤ m.2.1 62 43 ∧ m.2.1 62 43 ≤ 2 := hw.2.2.2.1
  have w4 : (-1) ≤ m.2.1 62 44 ∧ m.2.1 62 44 ≤ 5 := hw.2.2.2.2.1
  have w5 : 0 ≤ m.2.1 62 45 ∧ m.2.1 62 45 ≤ 63 := hw.2.2.2.2.2.1
  have w6 : 0 ≤ m.2.1 62 46 ∧ m.2.1 62 46 ≤ 3 := hw.2.2.2.2.2.2.1
  have w7 : 0 ≤ m.2.1 62 44 ∨ m.2.1 62 42 = 2 ∨ m.2.1 62 43 = 2 := hw.2.2.2.2.2.2.2
  have w8 : 0 ≤ m.1 28 ∧ m.1 28 ≤ 63 := hm.1 28
  have w9 := HC_rng (t := m.1 28) (u := m.2.1 62 45) (by omega) (by omega) (by omega) (by omega) h_k4
  refine g_bipush (by decide) rfl ?_
  refine g_iload_n (n := 1) rfl rfl ?_
  refine g_imulE (z := 40) (by decide) rfl ?_
  refine g_istore_n (n := 2) (lo' := [(0, vR 61), (1, vI 5)]) rfl rfl ?_
  refine g_aload_n (n := 0) rfl rfl ?_
  refine g_getf (v := vR 62) rfl (kl_61 _) rfl ?_
  refine g_iload_n (n := 2) rfl rfl ?_
  refine g_iconst rfl ?_
  refine g_iaddE (z := 42) (by decide) rfl ?_
  refine g_ialE (f := m.2.1 62) (v := m.2.1 62 42) rfl (kl_62 _) (by decide) (by decide) (by decide) rfl ?_
  refine g_istore_n (n := 3) (lo' := [(2, vI 40), (0, vR 61), (1, vI 5)]) rfl rfl ?_
  refine g_aload_n (n := 0) rfl rfl ?_
  refine g_getf (v := vR 62) rfl (kl_61 _) rfl ?_
  refine g_iload_n (n := 2) rfl rfl ?_
  refine g_iconst rfl ?_
  refine g_iaddE (z := 42) (by decide) rfl ?_
  refine g_iconst rfl ?_
  refine g_iaddE (z := 43) (by decide) rfl ?_
  refine g_ialE (f := m.2.1 62) (v := m.2.1 62 43) rfl (kl_62 _) (by decide) (by decide) (by decide) rfl ?_
  refine g_istore (n := 4) (lo' := [(3, vI (m.2.1 62 42)), (2, vI 40), (0, vR 61), (1, vI 5)]) rfl rfl ?_
  refine g_iload_n (n := 3) rfl rfl ?_
  refine g_iconst rfl ?_
  refine g_icmp_ne (by omega) (by omega) (by decide) (by decide) rfl ?_ ?_
  · intro k2
    refine g_iload (n := 4) rfl rfl ?_
    refine g_iconst rfl ?_
    refine g_icmp_ne (by omega) (by omega) (by decide) (by decide) rfl ?_ ?_
    · intro k3
      refine g_iload_n (n := 3) rfl rfl ?_
      refine g_iconst rfl ?_
      refine g_imul rfl ?_
      refine g_iload (n := 4) rfl rfl ?_
      refine g_iadd rfl ?_
      refine g_bipush (by decide) rfl ?_
      refine g_imul rfl ?_
      refine g_aload_n (n := 0) rfl rfl ?_
      refine g_getf (v := vR 62) rfl (kl_61 _) rfl ?_
      refine g_iload_n (n := 2) rfl rfl ?_
      refine g_iconst rfl ?_
      refine g_iaddE (z := 44) (by decide) rfl ?_
      refine g_ialE (f := m.2.1 62) (v := m.2.1 62 44) rfl (kl_62 _) (by decide) (by decide) (by decide) rfl ?_
      refine g_iadd rfl ?_
      refine g_istore (n := 5) (lo' := [(4, vI (m.2.1 62 43)), (3, vI (m.2.1 62 42)), (2, vI 40), (0, vR 61), (1, vI 5)]) rfl rfl ?_
      refine g_aload_n (n := 0) rfl rfl ?_
      refine g_getf (v := vR 62) rfl (kl_61 _) rfl ?_
      refine g_iload_n (n := 2) rfl rfl ?_
      refine g_iconst rfl ?_
      refine g_iaddE (z := 40) (by decide) rfl ?_
      refine g_ialE (f := m.2.1 62) (v := m.2.1 62 40) rfl (kl_62 _) (by decide) (by decide) (by decide) rfl ?_
      refine g_bipush (by decide) rfl ?_
      refine g_imul rfl ?_
      refine g_aload_n (n := 0) rfl rfl ?_
      refine g_getf (v := vR 62) rfl (kl_61 _) rfl ?_
      refine g_iload_n (n := 2) rfl rfl ?_
      refine g_iconst rfl ?_
      refine g_iaddE (z := 40) (by decide) rfl ?_
      refine g_iconst rfl ?_
      refine g_iaddE (z := 41) (by decide) rfl ?_
      refine g_ialE (f := m.2.1 62) (v := m.2.1 62 41) rfl (kl_62 _) (by decide) (by decide) (by decide) rfl ?_
      refine g_iadd rfl ?_
      refine g_bipush (by decide) rfl ?_
      refine g_imul rfl ?_
      refine g_iload (n := 5) rfl rfl ?_
      refine g_iadd rfl ?_
      refine g_bipush (by decide) rfl ?_
      refine g_imul rfl ?_
      refine g_aload_n (n := 0) rfl rfl ?_
      refine g_aload_n (n := 0) rfl rfl ?_
      refine g_getf (v := vR 62) rfl (kl_61 _) rfl ?_
      refine g_iload_n (n := 2) rfl rfl ?_
      refine g_iconst rfl ?_
      refine g_iaddE (z := 45) (by decide) rfl ?_
      refine g_ialE (f := m.2.1 62) (v := m.2.1 62 45) rfl (kl_62 _) (by decide) (by decide) (by decide) rfl ?_
      refine c_vI (i := 61) (ps := [vI (m.2.1 62 45)]) (r := [vI (((((m.2.1 62 40 * 6) + m.2.1 62 41) * 28) + ((((m.2.1 62 42 * 2) + m.2.1 62 43) * 6) + m.2.1 62 44)) * 16)]) (as := [vR 61, vI (m.2.1 62 45)]) (cs' := 0) (sl' := 0) rfl rfl rfl rfl rfl rfl (kl_61 _) (d_hungryCode (d := d - 1) (q := q - (5 + 19)) (by omega) (by omega) hm (u := m.2.1 62 45) (show 0 ≤ m.2.1 62 45 ∧ m.2.1 62 45 ≤ 63 by omega)) (by omega) (show 5 + 19 ≤ q by omega) (Nat.le_of_ble_eq_true rfl) (Nat.le_of_ble_eq_true rfl) rfl rfl rfl ?_
      rintro z4 m5 ⟨rfl, p7, p8, p9⟩
      have h10 : z4 = (HC (m.1 28) (m.2.1 62 45) 6) := p7
      subst h10
      refine g_iadd rfl ?_
      refine g_iconst rfl ?_
      refine g_imul rfl ?_
      refine g_aload_n (n := 0) rfl rfl ?_
      refine g_getf (v := vR 62) rfl (kl_61 _) rfl ?_
      refine g_iload_n (n := 2) rfl rfl ?_
      refine g_bipush (by decide) rfl ?_
      refine g_iaddE (z := 46) (by decide) rfl ?_
      refine g_ialE (f := m.2.1 62) (v := m.2.1 62 46) rfl (kl_62 _) (by decide) (by decide) (by decide) rfl ?_
      refine g_iadd rfl ?_
      refine g_iret rfl rfl ?_
      exact ⟨_, _, rfl, rfl, (by dsimp only [num, th, kr5]; repeat (split <;> try (exfalso; omega)); all_goals omega), (by omega), (by omega)⟩
    · intro k11
      refine g_bipush (by decide) rfl ?_
      refine g_iload_n (n := 3) rfl rfl ?_
      refine g_iadd rfl ?_
      refine g_goto rfl ?_
      refine g_istore (n := 5) (lo' := [(4, vI (m.2.1 62 43)), (3, vI (m.2.1 62 42)), (2, vI 40), (0, vR 61), (1, vI 5)]) rfl rfl ?_
      refine g_aload_n (n := 0) rfl rfl ?_
      refine g_getf (v := vR 62) rfl (kl_61 _) rfl ?_
      refine g_iload_n (n := 2) rfl rfl ?_
      refine g_iconst rfl ?_
      refine g_iaddE (z := 40) (by decide) rfl ?_
      refine g_ialE (f := m.2.1 62) (v := m.2.1 62 40) rfl (kl_62 _) (by decide) (by decide) (by decide) rfl ?_
      refine g_bipush (by decide) rfl ?_
      refine g_imul rfl ?_
      refine g_aload_n (n := 0) rfl rfl ?_
      refine g_getf (v := vR 62) rfl (kl_61 _) rfl ?_
      refine g_iload_n (n := 2) rfl rfl ?_
      refine g_iconst rfl ?_
      refine g_iaddE (z := 40) (by decide) rfl ?_
      refine g_iconst rfl ?_
      refine g_iaddE (z := 41) (by decide) rfl ?_
      refine g_ialE (f := m.2.1 62) (v := m.2.1 62 41) rfl (kl_62 _) (by decide) (by decide) (by decide) rfl ?_
      refine g_iadd rfl ?_
      refine g_bipush (by decide) rfl ?_
      refine g_imul rfl ?_
      refine g_iload (n := 5) rfl rfl ?_
      refine g_iadd rfl ?_
      refine g_bipush (by decide) rfl ?_
      refine g_imul rfl ?_
      refine g_aload_n (n := 0) rfl rfl ?_
      refine g_aload_n (n := 0) rfl rfl ?_
      refine g_getf (v := vR 62) rfl (kl_61 _) rfl ?_
      refine g_iload_n (n := 2) rfl rfl ?_
      refine g_iconst rfl ?_
      refine g_iaddE (z := 45) (by decide) rfl ?_
      refine g_ialE (f := m.2.1 62) (v := m.2.1 62 45) rfl (kl_62 _) (by decide) (by decide) (by decide) rfl ?_
      refine c_vI (i := 61) (ps := [vI (m.2.1 62 45)]) (r := [vI (((((m.2.1 62 40 * 6) + m.2.1 62 41) * 28) + (26 + m.2.1 62 42)) * 16)]) (as := [vR 61, vI (m.2.1 62 45)]) (cs' := 0) (sl' := 0) rfl rfl rfl rfl rfl rfl (kl_61 _) (d_hungryCode (d := d - 1) (q := q - (5 + 19)) (by omega) (by omega) hm (u := m.2.1 62 45) (show 0 ≤ m.2.1 62 45 ∧ m.2.1 62 45 ≤ 63 by omega)) (by omega) (show 5 + 19 ≤ q by omega) (Nat.le_of_ble_eq_true rfl) (Nat.le_of_ble_eq_true rfl) rfl rfl rfl ?_
      rintro z12 m13 ⟨rfl, p15, p16, p17⟩
      have h18 : z12 = (HC (m.1 28) (m.2.1 62 45) 6) := p15
      subst h18
      refine g_iadd rfl ?_
      refine g_iconst rfl ?_
      refine g_imul rfl ?_
      refine g_aload_n (n := 0) rfl rfl ?_
      refine g_getf (v := vR 62) rfl (kl_61 _) rfl ?_
      refine g_iload_n (n := 2) rfl rfl ?_
      refine g_bipush (by decide) rfl ?_
      refine g_iaddE (z := 46) (by decide) rfl ?_
      refine g_ialE (f := m.2.1 62) (v := m.2.1 62 46) rfl (kl_62 _) (by decide) (by decide) (by decide) rfl ?_
      refine g_iadd rfl ?_
      refine g_iret rfl rfl ?_
      exact ⟨_, _, rfl, rfl, (by dsimp only [num, th, kr5]; repeat (split <;> try (exfalso; omega)); all_goals omega), (by omega), (by omega)⟩
  · intro k19
    refine g_bipush (by decide) rfl ?_
    refine g_iload (n := 4) rfl rfl ?_
    refine g_iadd rfl ?_
    refine g_goto rfl ?_
    refine g_istore (n := 5) (lo' := [(4, vI (m.2.1 62 43)), (3, vI (m.2.1 62 42)), (2, vI 40), (0, vR 61), (1, vI 5)]) rfl rfl ?_
    refine g_aload_n (n := 0) rfl rfl ?_
    refine g_getf (v := vR 62) rfl (kl_61 _) rfl ?_
    refine g_iload_n (n := 2) rfl rfl ?_
    refine g_iconst rfl ?_
    refine g_iaddE (z := 40) (by decide) rfl ?_
    refine g_ialE (f := m.2.1 62) (v := m.2.1 62 40) rfl (kl_62 _) (by decide) (by decide) (by decide) rfl ?_
    refine g_bipush (by decide) rfl ?_
    refine g_imul rfl ?_
    refine g_aload_n (n := 0) rfl rfl ?_
    refine g_getf (v := vR 62) rfl (kl_61 _) rfl ?_
    refine g_iload_n (n := 2) rfl rfl ?_
    refine g_iconst rfl ?_
    refine g_iaddE (z := 40) (by decide) rfl ?_
    refine g_iconst rfl ?_
    refine g_iaddE (z := 41) (by decide) rfl ?_
    refine g_ialE (f := m.2.1 62) (v := m.2.1 62 41) rfl (kl_62 _) (by decide) (by decide) (by decide) rfl ?_
    refine g_iadd rfl ?_
    refine g_bipush (by decide) rfl ?_
    refine g_imul rfl ?_
    refine g_iload (n := 5) rfl rfl ?_
    refine g_iadd rfl ?_
    refine g_bipush (by decide) rfl ?_
    refine g_imul rfl ?_
    refine g_aload_n (n := 0) rfl rfl ?_
    refine g_aload_n (n := 0) rfl rfl ?_
    refine g_getf (v := vR 62) rfl (kl_61 _) rfl ?_
    refine g_iload_n (n := 2) rfl rfl ?_
    refine g_iconst rfl ?_
    refine g_iaddE (z := 45) (by decide) rfl ?_
    refine g_ialE (f := m.2.1 62) (v := m.2.1 62 45) rfl (kl_62 _) (by decide) (by decide) (by decide) rfl ?_
    refine c_vI (i := 61) (ps := [vI (m.2.1 62 45)]) (r := [vI (((((m.2.1 62 40 * 6) + m.2.1 62 41) * 28) + (24 + m.2.1 62 43)) * 16)]) (as := [vR 61, vI (m.2.1 62 45)]) (cs' := 0) (sl' := 0) rfl rfl rfl rfl rfl rfl (kl_61 _) (d_hungryCode (d := d - 1) (q := q - (5 + 19)) (by omega) (by omega) hm (u := m.2.1 62 45) (show 0 ≤ m.2.1 62 45 ∧ m.2.1 62 45 ≤ 63 by omega)) (by omega) (show 5 + 19 ≤ q by omega) (Nat.le_of_ble_eq_true rfl) (Nat.le_of_ble_eq_true rfl) rfl rfl rfl ?_
    rintro z20 m21 ⟨rfl, p23, p24, p25⟩
    have h26 : z20 = (HC (m.1 28) (m.2.1 62 45) 6) := p23
    subst h26
    refine g_iadd rfl ?_
    refine g_iconst rfl ?_
    refine g_imul rfl ?_
    refine g_aload_n (n := 0) rfl rfl ?_
    refine g_getf (v := vR 62) rfl (kl_61 _) rfl ?_
    refine g_iload_n (n := 2) rfl rfl ?_
    refine g_bipush (by decide) rfl ?_
    refine g_iaddE (z := 46) (by decide) rfl ?_
    refine g_ialE (f := m.2.1 62) (v := m.2.1 62 46) rfl (kl_62 _) (by decide) (by decide) (by decide) rfl ?_
    refine g_iadd rfl ?_
    refine g_iret rfl rfl ?_
    exact ⟨_, _, rfl, rfl, (by dsimp only [num, th, kr5]; repeat (split <;> try (exfalso; omega)); all_goals omega), (by omega), (by omega)⟩
theorem d_copy_0_4 {V : cg_V} {d q : Nat} (hd : 0 ≤ d) (hq : 0 ≤ q) {m : kM} (hm : kI m) : cg_S V d q mX10_copy [vR 61, vI 0, vI 4] (kl m) (R_V (fun m' => (kI m') ∧ (fr [] [62] m m') ∧ (kr4 (m'.2.1 62) = kr0 (m.2.1 62)) ∧ (∀ j : Int, (j < 32 ∨ 40 ≤ j) → m'.2.1 62 j = m.2.1 62 j))) := by
  have hf0 : fr [] [62] m m := fr_rf m
  refine cg_of (List.mem_of_getElem? (show ae_MT[145]? = some mX10_copy from rfl)) (Nat.le_of_ble_eq_true rfl) ?_
  show cg_G V mX10_copy d q _ 0 [(0, vR 61), (1, vI 0), (2, vI 4)] [] (kl m) 0 0
  refine g_iconst rfl ?_
  refine g_istore_n (n := 3) (lo' := [(0, vR 61), (1, vI 0), (2, vI 4)]) rfl rfl ?_
  refine g_iload_n (n := 3) rfl rfl ?_
  refine g_bipush (by decide) rfl ?_
  refine g_icmp_ge (by decide) (by decide) (by decide) (by decide) rfl ?_ ?_
  · intro k1
    exfalso; omega
  · intro k2
    refine g_aload_n (n := 0) rfl rfl ?_
    refine g_getf (v := vR 62) rfl (kl_61 _) rfl ?_
    refine g_bipush (by decide) rfl ?_
    refine g_iload_n (n := 2) rfl rfl ?_
    refine g_imulE (z := 32) (by decide) rfl ?_
    refine g_iload_n (n := 3) rfl rfl ?_
    refine g_iaddE (z := 32) (by decide) rfl ?_
    refine g_aload_n (n := 0) rfl rfl ?_
    refine g_getf (v := vR 62) rfl (kl_61 _) rfl ?_
    refine g_bipush (by decide) rfl ?_
    refine g_iload_n (n := 1) rfl rfl ?_
    refine g_imulE (z := 0) (by decide) rfl ?_
    refine g_iload_n (n := 3) rfl rfl ?_
    refine g_iaddE (z := 0) (by decide) rfl ?_
    have h3 : (-2147483648) ≤ m.2.1 62 0 ∧ m.2.1 62 0 ≤ 2147483647 := hm.2 62 0 (by decide) (show (0 : Int) < 48 by decide)
    refine g_ialE (f := m.2.1 62) (v := m.2.1 62 0) rfl (kl_62 _) (by decide) (by decide) (by decide) rfl ?_
    refine g_iAst (f := m.2.1 62) (m' := (kA m 62 (up (m.2.1 62) 32 (m.2.1 62 0)))) rfl (kl_62 _) (by decide) (by omega) (by omega) (kA_62 _ _) ?_
    have hm4 : kI (kA m 62 (up (m.2.1 62) 32 (m.2.1 62 0))) := kI_U hm 62 rfl (show ((-2147483648) : Int) ≤ m.2.1 62 0 by omega) (show m.2.1 62 0 ≤ (2147483647 : Int) by omega)
    have hf5 : fr [] [62] m (kA m 62 (up (m.2.1 62) 32 (m.2.1 62 0))) := fr_A hf0 62 _ rfl
    refine g_iincE (z := 1) (by decide) (n := 3) (lo' := [(0, vR 61), (1, vI 0), (2, vI 4)]) rfl rfl rfl ?_
    refine g_goto rfl ?_
    refine g_iload_n (n := 3) rfl rfl ?_
    refine g_bipush (by decide) rfl ?_
    refine g_icmp_ge (by decide) (by decide) (by decide) (by decide) rfl ?_ ?_
    · intro k6
      exfalso; omega
    · intro k7
      refine g_aload_n (n := 0) rfl rfl ?_
      refine g_getf (v := vR 62) rfl (kl_61 _) rfl ?_
      refine g_bipush (by decide) rfl ?_
      refine g_iload_n (n := 2) rfl rfl ?_
      refine g_imulE (z := 32) (by decide) rfl ?_
      refine g_iload_n (n := 3) rfl rfl ?_
      refine g_iaddE (z := 33) (by decide) rfl ?_
      refine g_aload_n (n := 0) rfl rfl ?_
      refine g_getf (v := vR 62) rfl (kl_61 _) rfl ?_
      refine g_bipush (by decide) rfl ?_
      refine g_iload_n (n := 1) rfl rfl ?_
      refine g_imulE (z := 0) (by decide) rfl ?_
      refine g_iload_n (n := 3) rfl rfl ?_
      refine g_iaddE (z := 1) (by decide) rfl ?_
      have h8 : (-2147483648) ≤ m.2.1 62 1 ∧ m.2.1 62 1 ≤ 2147483647 := hm.2 62 1 (by decide) (show (1 : Int) < 48 by decide)
      refine g_ialE (f := up (m.2.1 62) 32 (m.2.1 62 0)) (v := m.2.1 62 1) rfl (kl_62 _) (by decide) (by decide) (by decide) rfl ?_
      refine g_iAst (f := up (m.2.1 62) 32 (m.2.1 62 0)) (m' := (kA (kA m 62 (up (m.2.1 62) 32 (m.2.1 62 0))) 62 (up (up (m.2.1 62) 32 (m.2.1 62 0)) 33 (m.2.1 62 1)))) rfl (kl_62 _) (by decide) (by omega) (by omega) (kA_62 _ _) ?_
      have hm9 : kI (kA (kA m 62 (up (m.2.1 62) 32 (m.2.1 62 0))) 62 (up (up (m.2.1 62) 32 (m.2.1 62 0)) 33 (m.2.1 62 1))) := kI_U hm4 62 rfl (show ((-2147483648) : Int) ≤ m.2.1 62 1 by omega) (show m.2.1 62 1 ≤ (2147483647 : Int) by omega)
      have hf10 : fr [] [62] m (kA (kA m 62 (up (m.2.1 62) 32 (m.2.1 62 0))) 62 (up (up (m.2.1 62) 32 (m.2.1 62 0)) 33 (m.2.1 62 1))) := fr_A hf5 62 _ rfl
      refine g_iincE (z := 2) (by decide) (n := 3) (lo' := [(0, vR 61), (1, vI 0), (2, vI 4)]) rfl rfl rfl ?_
      refine g_goto rfl ?_
      refine g_iload_n (n := 3) rfl rfl ?_
      refine g_bipush (by decide) rfl ?_
      refine g_icmp_ge (by decide) (by decide) (by decide) (by decide) rfl ?_ ?_
      · intro k11
        exfalso; omega
      · intro k12
        refine g_aload_n (n := 0) rfl rfl ?_
        refine g_getf (v := vR 62) rfl (kl_61 _) rfl ?_
        refine g_bipush (by decide) rfl ?_
        refine g_iload_n (n := 2) rfl rfl ?_
        refine g_imulE (z := 32) (by decide) rfl ?_
        refine g_iload_n (n := 3) rfl rfl ?_
        refine g_iaddE (z := 34) (by decide) rfl ?_
        refine g_aload_n (n := 0) rfl rfl ?_
        refine g_getf (v := vR 62) rfl (kl_61 _) rfl ?_
        refine g_bipush (by decide) rfl ?_
        refine g_iload_n (n := 1) rfl rfl ?_
        refine g_imulE (z := 0) (by decide) rfl ?_
        refine g_iload_n (n := 3) rfl rfl ?_
        refine g_iaddE (z := 2) (by decide) rfl ?_
        have h13 : (-2147483648) ≤ m.2.1 62 2 ∧ m.2.1 62 2 ≤ 2147483647 := hm.2 62 2 (by decide) (show (2 : Int) < 48 by decide)
        refine g_ialE (f := up (up (m.2.1 62) 32 (m.2.1 62 0)) 33 (m.2.1 62 1)) (v := m.2.1 62 2) rfl (kl_62 _) (by decide) (by decide) (by decide) rfl ?_
        refine g_iAst (f := up (up (m.2.1 62) 32 (m.2.1 62 0)) 33 (m.2.1 62 1)) (m' := (kA (kA (kA m 62 (up (m.2.1 62) 32 (m.2.1 62 0))) 62 (up (up (m.2.1 62) 32 (m.2.1 62 0)) 33 (m.2.1 62 1))) 62 (up (up (up (m.2.1 62) 32 (m.2.1 62 0)) 33 (m.2.1 62 1)) 34 (m.2.1 62 2)))) rfl (kl_62 _) (by decide) (by omega) (by omega) (kA_62 _ _) ?_
        have hm14 : kI (kA (kA (kA m 62 (up (m.2.1 62) 32 (m.2.1 62 0))) 62 (up (up (m.2.1 62) 32 (m.2.1 62 0)) 33 (m.2.1 62 1))) 62 (up (up (up (m.2.1 62) 32 (m.2.1 62 0)) 33 (m.2.1 62 1)) 34 (m.2.1 62 2))) := kI_U hm9 62 rfl (show ((-2147483648) : Int) ≤ m.2.1 62 2 by omega) (show m.2.1 62 2 ≤ (2147483647 : Int) by omega)
        have hf15 : fr [] [62] m (kA (kA (kA m 62 (up (m.2.1 62) 32 (m.2.1 62 0))) 62 (up (up (m.2.1 62) 32 (m.2.1 62 0)) 33 (m.2.1 62 1))) 62 (up (up (up (m.2.1 62) 32 (m.2.1 62 0)) 33 (m.2.1 62 1)) 34 (m.2.1 62 2))) := fr_A hf10 62 _ rfl
        refine g_iincE (z := 3) (by decide) (n := 3) (lo' := [(0, vR 61), (1, vI 0), (2, vI 4)]) rfl rfl rfl ?_
        refine g_goto rfl ?_
        refine g_iload_n (n := 3) rfl rfl ?_
        refine g_bipush (by decide) rfl ?_
        refine g_icmp_ge (by decide) (by decide) (by decide) (by decide) rfl ?_ ?_
        · intro k16
          exfalso; omega
        · intro k17
          refine g_aload_n (n := 0) rfl rfl ?_
          refine g_getf (v := vR 62) rfl (kl_61 _) rfl ?_
          refine g_bipush (by decide) rfl ?_
          refine g_iload_n (n := 2) rfl rfl ?_
          refine g_imulE (z := 32) (by decide) rfl ?_
          refine g_iload_n (n := 3) rfl rfl ?_
          refine g_iaddE (z := 35) (by decide) rfl ?_
          refine g_aload_n (n := 0) rfl rfl ?_
          refine g_getf (v := vR 62) rfl (kl_61 _) rfl ?_
          refine g_bipush (by decide) rfl ?_
          refine g_iload_n (n := 1) rfl rfl ?_
          refine g_imulE (z := 0) (by decide) rfl ?_
          refine g_iload_n (n := 3) rfl rfl ?_
          refine g_iaddE (z := 3) (by decide) rfl ?_
          have h18 : (-2147483648) ≤ m.2.1 62 3 ∧ m.2.1 62 3 ≤ 2147483647 := hm.2 62 3 (by decide) (show (3 : Int) < 48 by decide)
          refine g_ialE (f := up (up (up (m.2.1 62) 32 (m.2.1 62 0)) 33 (m.2.1 62 1)) 34 (m.2.1 62 2)) (v := m.2.1 62 3) rfl (kl_62 _) (by decide) (by decide) (by decide) rfl ?_
          refine g_iAst (f := up (up (up (m.2.1 62) 32 (m.2.1 62 0)) 33 (m.2.1 62 1)) 34 (m.2.1 62 2)) (m' := (kA (kA (kA (kA m 62 (up (m.2.1 62) 32 (m.2.1 62 0))) 62 (up (up (m.2.1 62) 32 (m.2.1 62 0)) 33 (m.2.1 62 1))) 62 (up (up (up (m.2.1 62) 32 (m.2.1 62 0)) 33 (m.2.1 62 1)) 34 (m.2.1 62 2))) 62 (up (up (up (up (m.2.1 62) 32 (m.2.1 62 0)) 33 (m.2.1 62 1)) 34 (m.2.1 62 2)) 35 (m.2.1 62 3)))) rfl (kl_62 _) (by decide) (by omega) (by omega) (kA_62 _ _) ?_
          have hm19 : kI (kA (kA (kA (kA m 62 (up (m.2.1 62) 32 (m.2.1 62 0))) 62 (up (up (m.2.1 62) 32 (m.2.1 62 0)) 33 (m.2.1 62 1))) 62 (up (up (up (m.2.1 62) 32 (m.2.1 62 0)) 33 (m.2.1 62 1)) 34 (m.2.1 62 2))) 62 (up (up (up (up (m.2.1 62) 32 (m.2.1 62 0)) 33 (m.2.1 62 1)) 34 (m.2.1 62 2)) 35 (m.2.1 62 3))) := kI_U hm14 62 rfl (show ((-2147483648) : Int) ≤ m.2.1 62 3 by omega) (show m.2.1 62 3 ≤ (2147483647 : Int) by omega)
          have hf20 : fr [] [62] m (kA (kA (kA (kA m 62 (up (m.2.1 62) 32 (m.2.1 62 0))) 62 (up (up (m.2.1 62) 32 (m.2.1 62 0)) 33 (m.2.1 62 1))) 62 (up (up (up (m.2.1 62) 32 (m.2.1 62 0)) 33 (m.2.1 62 1)) 34 (m.2.1 62 2))) 62 (up (up (up (up (m.2.1 62) 32 (m.2.1 62 0)) 33 (m.2.1 62 1)) 34 (m.2.1 62 2)) 35 (m.2.1 62 3))) := fr_A hf15 62 _ rfl
          refine g_iincE (z := 4) (by decide) (n := 3) (lo' := [(0, vR 61), (1, vI 0), (2, vI 4)]) rfl rfl rfl ?_
          refine g_goto rfl ?_
          refine g_iload_n (n := 3) rfl rfl ?_
          refine g_bipush (by decide) rfl ?_
          refine g_icmp_ge (by decide) (by decide) (by decide) (by decide) rfl ?_ ?_
          · intro k21
            exfalso; omega
          · intro k22
            refine g_aload_n (n := 0) rfl rfl ?_
            refine g_getf (v := vR 62) rfl (kl_61 _) rfl ?_
            refine g_bipush (by decide) rfl ?_
            refine g_iload_n (n := 2) rfl rfl ?_
            refine g_imulE (z := 32) (by decide) rfl ?_
            refine g_iload_n (n := 3) rfl rfl ?_
            refine g_iaddE (z := 36) (by decide) rfl ?_
            refine g_aload_n (n := 0) rfl rfl ?_
            refine g_getf (v := vR 62) rfl (kl_61 _) rfl ?_
            refine g_bipush (by decide) rfl ?_
            refine g_iload_n (n := 1) rfl rfl ?_
            refine g_imulE (z := 0) (by decide) rfl ?_
            refine g_iload_n (n := 3) rfl rfl ?_
            refine g_iaddE (z := 4) (by decide) rfl ?_
            have h23 : (-2147483648) ≤ m.2.1 62 4 ∧ m.2.1 62 4 ≤ 2147483647 := hm.2 62 4 (by decide) (show (4 : Int) < 48 by decide)
            refine g_ialE (f := up (up (up (up (m.2.1 62) 32 (m.2.1 62 0)) 33 (m.2.1 62 1)) 34 (m.2.1 62 2)) 35 (m.2.1 62 3)) (v := m.2.1 62 4) rfl (kl_62 _) (by decide) (by decide) (by decide) rfl ?_
            refine g_iAst (f := up (up (up (up (m.2.1 62) 32 (m.2.1 62 0)) 33 (m.2.1 62 1)) 34 (m.2.1 62 2)) 35 (m.2.1 62 3)) (m' := (kA (kA (kA (kA (kA m 62 (up (m.2.1 62) 32 (m.2.1 62 0))) 62 (up (up (m.2.1 62) 32 (m.2.1 62 0)) 33 (m.2.1 62 1))) 62 (up (up (up (m.2.1 62) 32 (m.2.1 62 0)) 33 (m.2.1 62 1)) 34 (m.2.1 62 2))) 62 (up (up (up (up (m.2.1 62) 32 (m.2.1 62 0)) 33 (m.2.1 62 1)) 34 (m.2.1 62 2)) 35 (m.2.1 62 3))) 62 (up (up (up (up (up (m.2.1 62) 32 (m.2.1 62 0)) 33 (m.2.1 62 1)) 34 (m.2.1 62 2)) 35 (m.2.1 62 3)) 36 (m.2.1 62 4)))) rfl (kl_62 _) (by decide) (by omega) (by omega) (kA_62 _ _) ?_
            have hm24 : kI (kA (kA (kA (kA (kA m 62 (up (m.2.1 62) 32 (m.2.1 62 0))) 62 (up (up (m.2.1 62) 32 (m.2.1 62 0)) 33 (m.2.1 62 1))) 62 (up (up (up (m.2.1 62) 32 (m.2.1 62 0)) 33 (m.2.1 62 1)) 34 (m.2.1 62 2))) 62 (up (up (up (up (m.2.1 62) 32 (m.2.1 62 0)) 33 (m.2.1 62 1)) 34 (m.2.1 62 2)) 35 (m.2.1 62 3))) 62 (up (up (up (up (up (m.2.1 62) 32 (m.2.1 62 0)) 33 (m.2.1 62 1)) 34 (m.2.1 62 2)) 35 (m.2.1 62 3)) 36 (m.2.1 62 4))) := kI_U hm19 62 rfl (show ((-2147483648) : Int) ≤ m.2.1 62 4 by omega) (show m.2.1 62 4 ≤ (2147483647 : Int) by omega)
            have hf25 : fr [] [62] m (kA (kA (kA (kA (kA m 62 (up (m.2.1 62) 32 (m.2.1 62 0))) 62 (up (up (m.2.1 62) 32 (m.2.1 62 0)) 33 (m.2.1 62 1))) 62 (up (up (up (m.2.1 62) 32 (m.2.1 62 0)) 33 (m.2.1 62 1)) 34 (m.2.1 62 2))) 62 (up (up (up (up (m.2.1 62) 32 (m.2.1 62 0)) 33 (m.2.1 62 1)) 34 (m.2.1 62 2)) 35 (m.2.1 62 3))) 62 (up (up (up (up (up (m.2.1 62) 32 (m.2.1 62 0)) 33 (m.2.1 62 1)) 34 (m.2.1 62 2)) 35 (m.2.1 62 3)) 36 (m.2.1 62 4))) := fr_A hf20 62 _ rfl
            refine g_iincE (z := 5) (by decide) (n := 3) (lo' := [(0, vR 61), (1, vI 0), (2, vI 4)]) rfl rfl rfl ?_
            refine g_goto rfl ?_
            refine g_iload_n (n := 3) rfl rfl ?_
            refine g_bipush (by decide) rfl ?_
            refine g_icmp_ge (by decide) (by decide) (by decide) (by decide) rfl ?_ ?_
            · intro k26
              exfalso; omega
            · intro k27
              refine g_aload_n (n := 0) rfl rfl ?_
              refine g_getf (v := vR 62) rfl (kl_61 _) rfl ?_
              refine g_bipush (by decide) rfl ?_
              refine g_iload_n (n := 2) rfl rfl ?_
              refine g_imulE (z := 32) (by decide) rfl ?_
              refine g_iload_n (n := 3) rfl rfl ?_
              refine g_iaddE (z := 37) (by decide) rfl ?_
              refine g_aload_n (n := 0) rfl rfl ?_
              refine g_getf (v := vR 62) rfl (kl_61 _) rfl ?_
              refine g_bipush (by decide) rfl ?_
              refine g_iload_n (n := 1) rfl rfl ?_
              refine g_imulE (z := 0) (by decide) rfl ?_
              refine g_iload_n (n := 3) rfl rfl ?_
              refine g_iaddE (z := 5) (by decide) rfl ?_
              have h28 : (-2147483648) ≤ m.2.1 62 5 ∧ m.2.1 62 5 ≤ 2147483647 := hm.2 62 5 (by decide) (show (5 : Int) < 48 by decide)
              refine g_ialE (f := up (up (up (up (up (m.2.1 62) 32 (m.2.1 62 0)) 33 (m.2.1 62 1)) 34 (m.2.1 62 2)) 35 (m.2.1 62 3)) 36 (m.2.1 62 4)) (v := m.2.1 62 5) rfl (kl_62 _) (by decide) (by decide) (by decide) rfl ?_
              refine g_iAst (f := up (up (up (up (up (m.2.1 62) 32 (m.2.1 62 0)) 33 (m.2.1 62 1)) 34 (m.2.1 62 2)) 35 (m.2.1 62 3)) 36 (m.2.1 62 4)) (m' := (kA (kA (kA (kA (kA (kA m 62 (up (m.2.1 62) 32 (m.2.1 62 0))) 62 (up (up (m.2.1 62) 32 (m.2.1 62 0)) 33 (m.2.1 62 1))) 62 (up (up (up (m.2.1 62) 32 (m.2.1 62 0)) 33 (m.2.1 62 1)) 34 (m.2.1 62 2))) 62 (up (up (up (up (m.2.1 62) 32 (m.2.1 62 0)) 33 (m.2.1 62 1)) 34 (m.2.1 62 2)) 35 (m.2.1 62 3))) 62 (up (up (up (up (up (m.2.1 62) 32 (m.2.1 62 0)) 33 (m.2.1 62 1)) 34 (m.2.1 62 2)) 35 (m.2.1 62 3)) 36 (m.2.1 62 4))) 62 (up (up (up (up (up (up (m.2.1 62) 32 (m.2.1 62 0)) 33 (m.2.1 62 1)) 34 (m.2.1 62 2)) 35 (m.2.1 62 3)) 36 (m.2.1 62 4)) 37 (m.2.1 62 5)))) rfl (kl_62 _) (by decide) (by omega) (by omega) (kA_62 _ _) ?_
              have hm29 : kI (kA (kA (kA (kA (kA (kA m 62 (up (m.2.1 62) 32 (m.2.1 62 0))) 62 (up (up (m.2.1 62) 32 (m.2.1 62 0)) 33 (m.2.1 62 1))) 62 (up (up (up (m.2.1 62) 32 (m.2.1 62 0)) 33 (m.2.1 62 1)) 34 (m.2.1 62 2))) 62 (up (up (up (up (m.2.1 62) 32 (m.2.1 62 0)) 33 (m.2.1 62 1)) 34 (m.2.1 62 2)) 35 (m.2.1 62 3))) 62 (up (up (up (up (up (m.2.1 62) 32 (m.2.1 62 0)) 33 (m.2.1 62 1)) 34 (m.2.1 62 2)) 35 (m.2.1 62 3)) 36 (m.2.1 62 4))) 62 (up (up (up (up (up (up (m.2.1 62) 32 (m.2.1 62 0)) 33 (m.2.1 62 1)) 34 (m.2.1 62 2)) 35 (m.2.1 62 3)) 36 (m.2.1 62 4)) 37 (m.2.1 62 5))) := kI_U hm24 62 rfl (show ((-2147483648) : Int) ≤ m.2.1 62 5 by omega) (show m.2.1 62 5 ≤ (2147483647 : Int) by omega)
              have hf30 : fr [] [62] m (kA (kA (kA (kA (kA (kA m 62 (up (m.2.1 62) 32 (m.2.1 62 0))) 62 (up (up (m.2.1 62) 32 (m.2.1 62 0)) 33 (m.2.1 62 1))) 62 (up (up (up (m.2.1 62) 32 (m.2.1 62 0)) 33 (m.2.1 62 1)) 34 (m.2.1 62 2))) 62 (up (up (up (up (m.2.1 62) 32 (m.2.1 62 0)) 33 (m.2.1 62 1)) 34 (m.2.1 62 2)) 35 (m.2.1 62 3))) 62 (up (up (up (up (up (m.2.1 62) 32 (m.2.1 62 0)) 33 (m.2.1 62 1)) 34 (m.2.1 62 2)) 35 (m.2.1 62 3)) 36 (m.2.1 62 4))) 62 (up (up (up (up (up (up (m.2.1 62) 32 (m.2.1 62 0)) 33 (m.2.1 62 1)) 34 (m.2.1 62 2)) 35 (m.2.1 62 3)) 36 (m.2.1 62 4)) 37 (m.2.1 62 5))) := fr_A hf25 62 _ rfl
              refine g_iincE (z := 6) (by decide) (n := 3) (lo' := [(0, vR 61), (1, vI 0), (2, vI 4)]) rfl rfl rfl ?_
              refine g_goto rfl ?_
              refine g_iload_n (n := 3) rfl rfl ?_
              refine g_bipush (by decide) rfl ?_
              refine g_icmp_ge (by decide) (by decide) (by decide) (by decide) rfl ?_ ?_
              · intro k31
                exfalso; omega
              · intro k32
                refine g_aload_n (n := 0) rfl rfl ?_
                refine g_getf (v := vR 62) rfl (kl_61 _) rfl ?_
                refine g_bipush (by decide) rfl ?_
                refine g_iload_n (n := 2) rfl rfl ?_
                refine g_imulE (z := 32) (by decide) rfl ?_
                refine g_iload_n (n := 3) rfl rfl ?_
                refine g_iaddE (z := 38) (by decide) rfl ?_
                refine g_aload_n (n := 0) rfl rfl ?_
                refine g_getf (v := vR 62) rfl (kl_61 _) rfl ?_
                refine g_bipush (by decide) rfl ?_
                refine g_iload_n (n := 1) rfl rfl ?_
                refine g_imulE (z := 0) (by decide) rfl ?_
                refine g_iload_n (n := 3) rfl rfl ?_
                refine g_iaddE (z := 6) (by decide) rfl ?_
                have h33 : (-2147483648) ≤ m.2.1 62 6 ∧ m.2.1 62 6 ≤ 2147483647 := hm.2 62 6 (by decide) (show (6 : Int) < 48 by decide)
                refine g_ialE (f := up (up (up (up (up (up (m.2.1 62) 32 (m.2.1 62 0)) 33 (m.2.1 62 1)) 34 (m.2.1 62 2)) 35 (m.2.1 62 3)) 36 (m.2.1 62 4)) 37 (m.2.1 62 5)) (v := m.2.1 62 6) rfl (kl_62 _) (by decide) (by decide) (by decide) rfl ?_
                refine g_iAst (f := up (up (up (up (up (up (m.2.1 62) 32 (m.2.1 62 0)) 33 (m.2.1 62 1)) 34 (m.2.1 62 2)) 35 (m.2.1 62 3)) 36 (m.2.1 62 4)) 37 (m.2.1 62 5)) (m' := (kA (kA (kA (kA (kA (kA (kA m 62 (up (m.2.1 62) 32 (m.2.1 62 0))) 62 (up (up (m.2.1 62) 32 (m.2.1 62 0)) 33 (m.2.1 62 1))) 62 (up (up (up (m.2.1 62) 32 (m.2.1 62 0)) 33 (m.2.1 62 1)) 34 (m.2.1 62 2))) 62 (up (up (up (up (m.2.1 62) 32 (m.2.1 62 0)) 33 (m.2.1 62 1)) 34 (m.2.1 62 2)) 35 (m.2.1 62 3))) 62 (up (up (up (up (up (m.2.1 62) 32 (m.2.1 62 0)) 33 (m.2.1 62 1)) 34 (m.2.1 62 2)) 35 (m.2.1 62 3)) 36 (m.2.1 62 4))) 62 (up (up (up (up (up (up (m.2.1 62) 32 (m.2.1 62 0)) 33 (m.2.1 62 1)) 34 (m.2.1 62 2)) 35 (m.2.1 62 3)) 36 (m.2.1 62 4)) 37 (m.2.1 62 5))) 62 (up (up (up (up (up (up (up (m.2.1 62) 32 (m.2.1 62 0)) 33 (m.2.1 62 1)) 34 (m.2.1 62 2)) 35 (m.2.1 62 3)) 36 (m.2.1 62 4)) 37 (m.2.1 62 5)) 38 (m.2.1 62 6)))) rfl (kl_62 _) (by decide) (by omega) (by omega) (kA_62 _ _) ?_
                have hm34 : kI (kA (kA (kA (kA (kA (kA (kA m 62 (up (m.2.1 62) 32 (m.2.1 62 0))) 62 (up (up (m.2.1 62) 32 (m.2.1 62 0)) 33 (m.2.1 62 1))) 62 (up (up (up (m.2.1 62) 32 (m.2.1 62 0)) 33 (m.2.1 62 1)) 34 (m.2.1 62 2))) 62 (up (up (up (up (m.2.1 62) 32 (m.2.1 62 0)) 33 (m.2.1 62 1)) 34 (m.2.1 62 2)) 35 (m.2.1 62 3))) 62 (up (up (up (up (up (m.2.1 62) 32 (m.2.1 62 0)) 33 (m.2.1 62 1)) 34 (m.2.1 62 2)) 35 (m.2.1 62 3)) 36 (m.2.1 62 4))) 62 (up (up (up (up (up (up (m.2.1 62) 32 (m.2.1 62 0)) 33 (m.2.1 62 1)) 34 (m.2.1 62 2)) 35 (m.2.1 62 3)) 36 (m.2.1 62 4)) 37 (m.2.1 62 5))) 62 (up (up (up (up (up (up (up (m.2.1 62) 32 (m.2.1 62 0)) 33 (m.2.1 62 1)) 34 (m.2.1 62 2)) 35 (m.2.1 62 3)) 36 (m.2.1 62 4)) 37 (m.2.1 62 5)) 38 (m.2.1 62 6))) := kI_U hm29 62 rfl (show ((-2147483648) : Int) ≤ m.2.1 62 6 by omega) (show m.2.1 62 6 ≤ (2147483647 : Int) by omega)
                have hf35 : fr [] [62] m (kA (kA (kA (kA (kA (kA (kA m 62 (up (m.2.1 62) 32 (m.2.1 62 0))) 62 (up (up (m.2.1 62) 32 (m.2.1 62 0)) 33 (m.2.1 62 1))) 62 (up (up (up (m.2.1 62) 32 (m.2.1 62 0)) 33 (m.2.1 62 1)) 34 (m.2.1 62 2))) 62 (up (up (up (up (m.2.1 62) 32 (m.2.1 62 0)) 33 (m.2.1 62 1)) 34 (m.2.1 62 2)) 35 (m.2.1 62 3))) 62 (up (up (up (up (up (m.2.1 62) 32 (m.2.1 62 0)) 33 (m.2.1 62 1)) 34 (m.2.1 62 2)) 35 (m.2.1 62 3)) 36 (m.2.1 62 4))) 62 (up (up (up (up (up (up (m.2.1 62) 32 (m.2.1 62 0)) 33 (m.2.1 62 1)) 34 (m.2.1 62 2)) 35 (m.2.1 62 3)) 36 (m.2.1 62 4)) 37 (m.2.1 62 5))) 62 (up (up (up (up (up (up (up (m.2.1 62) 32 (m.2.1 62 0)) 33 (m.2.1 62 1)) 34 (m.2.1 62 2)) 35 (m.2.1 62 3)) 36 (m.2.1 62 4)) 37 (m.2.1 62 5)) 38 (m.2.1 62 6))) := fr_A hf30 62 _ rfl
                refine g_iincE (z := 7) (by decide) (n := 3) (lo' := [(0, vR 61), (1, vI 0), (2, vI 4)]) rfl rfl rfl ?_
                refine g_goto rfl ?_
                refine g_iload_n (n := 3) rfl rfl ?_
                refine g_bipush (by decide) rfl ?_
                refine g_icmp_ge (by decide) (by decide) (by decide) (by decide) rfl ?_ ?_
                · intro k36
                  exfalso; omega
                · intro k37
                  refine g_aload_n (n := 0) rfl rfl ?_
                  refine g_getf (v := vR 62) rfl (kl_61 _) rfl ?_
                  refine g_bipush (by decide) rfl ?_
                  refine g_iload_n (n := 2) rfl rfl ?_
                  refine g_imulE (z := 32) (by decide) rfl ?_
                  refine g_iload_n (n := 3) rfl rfl ?_
                  refine g_iaddE (z := 39) (by decide) rfl ?_
                  refine g_aload_n (n := 0) rfl rfl ?_
                  refine g_getf (v := vR 62) rfl (kl_61 _) rfl ?_
                  refine g_bipush (by decide) rfl ?_
                  refine g_iload_n (n := 1) rfl rfl ?_
                  refine g_imulE (z := 0) (by decide) rfl ?_
                  refine g_iload_n (n := 3) rfl rfl ?_
                  refine g_iaddE (z := 7) (by decide) rfl ?_
                  have h38 : (-2147483648) ≤ m.2.1 62 7 ∧ m.2.1 62 7 ≤ 2147483647 := hm.2 62 7 (by decide) (show (7 : Int) < 48 by decide)
                  refine g_ialE (f := up (up (up (up (up (up (up (m.2.1 62) 32 (m.2.1 62 0)) 33 (m.2.1 62 1)) 34 (m.2.1 62 2)) 35 (m.2.1 62 3)) 36 (m.2.1 62 4)) 37 (m.2.1 62 5)) 38 (m.2.1 62 6)) (v := m.2.1 62 7) rfl (kl_62 _) (by decide) (by decide) (by decide) rfl ?_
                  refine g_iAst (f := up (up (up (up (up (up (up (m.2.1 62) 32 (m.2.1 62 0)) 33 (m.2.1 62 1)) 34 (m.2.1 62 2)) 35 (m.2.1 62 3)) 36 (m.2.1 62 4)) 37 (m.2.1 62 5)) 38 (m.2.1 62 6)) (m' := (kA (kA (kA (kA (kA (kA (kA (kA m 62 (up (m.2.1 62) 32 (m.2.1 62 0))) 62 (up (up (m.2.1 62) 32 (m.2.1 62 0)) 33 (m.2.1 62 1))) 62 (up (up (up (m.2.1 62) 32 (m.2.1 62 0)) 33 (m.2.1 62 1)) 34 (m.2.1 62 2))) 62 (up (up (up (up (m.2.1 62) 32 (m.2.1 62 0)) 33 (m.2.1 62 1)) 34 (m.2.1 62 2)) 35 (m.2.1 62 3))) 62 (up (up (up (up (up (m.2.1 62) 32 (m.2.1 62 0)) 33 (m.2.1 62 1)) 34 (m.2.1 62 2)) 35 (m.2.1 62 3)) 36 (m.2.1 62 4))) 62 (up (up (up (up (up (up (m.2.1 62) 32 (m.2.1 62 0)) 33 (m.2.1 62 1)) 34 (m.2.1 62 2)) 35 (m.2.1 62 3)) 36 (m.2.1 62 4)) 37 (m.2.1 62 5))) 62 (up (up (up (up (up (up (up (m.2.1 62) 32 (m.2.1 62 0)) 33 (m.2.1 62 1)) 34 (m.2.1 62 2)) 35 (m.2.1 62 3)) 36 (m.2.1 62 4)) 37 (m.2.1 62 5)) 38 (m.2.1 62 6))) 62 (up (up (up (up (up (up (up (up (m.2.1 62) 32 (m.2.1 62 0)) 33 (m.2.1 62 1)) 34 (m.2.1 62 2)) 35 (m.2.1 62 3)) 36 (m.2.1 62 4)) 37 (m.2.1 62 5)) 38 (m.2.1 62 6)) 39 (m.2.1 62 7)))) rfl (kl_62 _) (by decide) (by omega) (by omega) (kA_62 _ _) ?_
                  have hm39 : kI (kA (kA (kA (kA (kA (kA (kA (kA m 62 (up (m.2.1 62) 32 (m.2.1 62 0))) 62 (up (up (m.2.1 62) 32 (m.2.1 62 0)) 33 (m.2.1 62 1))) 62 (up (up (up (m.2.1 62) 32 (m.2.1 62 0)) 33 (m.2.1 62 1)) 34 (m.2.1 62 2))) 62 (up (up (up (up (m.2.1 62) 32 (m.2.1 62 0)) 33 (m.2.1 62 1)) 34 (m.2.1 62 2)) 35 (m.2.1 62 3))) 62 (up (up (up (up (up (m.2.1 62) 32 (m.2.1 62 0)) 33 (m.2.1 62 1)) 34 (m.2.1 62 2)) 35 (m.2.1 62 3)) 36 (m.2.1 62 4))) 62 (up (up (up (up (up (up (m.2.1 62) 32 (m.2.1 62 0)) 33 (m.2.1 62 1)) 34 (m.2.1 62 2)) 35 (m.2.1 62 3)) 36 (m.2.1 62 4)) 37 (m.2.1 62 5))) 62 (up (up (up (up (up (up (up (m.2.1 62) 32 (m.2.1 62 0)) 33 (m.2.1 62 1)) 34 (m.2.1 62 2)) 35 (m.2.1 62 3)) 36 (m.2.1 62 4)) 37 (m.2.1 62 5)) 38 (m.2.1 62 6))) 62 (up (up (up (up (up (up (up (up (m.2.1 62) 32 (m.2.1 62 0)) 33 (m.2.1 62 1)) 34 (m.2.1 62 2)) 35 (m.2.1 62 3)) 36 (m.2.1 62 4)) 37 (m.2.1 62 5)) 38 (m.2.1 62 6)) 39 (m.2.1 62 7))) := kI_U hm34 62 rfl (show ((-2147483648) : Int) ≤ m.2.1 62 7 by omega) (show m.2.1 62 7 ≤ (2147483647 : Int) by omega)
                  have hf40 : fr [] [62] m (kA (kA (kA (kA (kA (kA (kA (kA m 62 (up (m.2.1 62) 32 (m.2.1 62 0))) 62 (up (up (m.2.1 62) 32 (m.2.1 62 0)) 33 (m.2.1 62 1))) 62 (up (up (up (m.2.1 62) 32 (m.2.1 62 0)) 33 (m.2.1 62 1)) 34 (m.2.1 62 2))) 62 (up (up (up (up (m.2.1 62) 32 (m.2.1 62 0)) 33 (m.2.1 62 1)) 34 (m.2.1 62 2)) 35 (m.2.1 62 3))) 62 (up (up (up (up (up (m.2.1 62) 32 (m.2.1 62 0)) 33 (m.2.1 62 1)) 34 (m.2.1 62 2)) 35 (m.2.1 62 3)) 36 (m.2.1 62 4))) 62 (up (up (up (up (up (up (m.2.1 62) 32 (m.2.1 62 0)) 33 (m.2.1 62 1)) 34 (m.2.1 62 2)) 35 (m.2.1 62 3)) 36 (m.2.1 62 4)) 37 (m.2.1 62 5))) 62 (up (up (up (up (up (up (up (m.2.1 62) 32 (m.2.1 62 0)) 33 (m.2.1 62 1)) 34 (m.2.1 62 2)) 35 (m.2.1 62 3)) 36 (m.2.1 62 4)) 37 (m.2.1 62 5)) 38 (m.2.1 62 6))) 62 (up (up (up (up (up (up (up (up (m.2.1 62) 32 (m.2.1 62 0)) 33 (m.2.1 62 1)) 34 (m.2.1 62 2)) 35 (m.2.1 62 3)) 36 (m.2.1 62 4)) 37 (m.2.1 62 5)) 38 (m.2.1 62 6)) 39 (m.2.1 62 7))) := fr_A hf35 62 _ rfl
                  refine g_iincE (z := 8) (by decide) (n := 3) (lo' := [(0, vR 61), (1, vI 0), (2, vI 4)]) rfl rfl rfl ?_
                  refine g_goto rfl ?_
                  refine g_iload_n (n := 3) rfl rfl ?_
                  refine g_bipush (by decide) rfl ?_
                  refine g_icmp_ge (by decide) (by decide) (by decide) (by decide) rfl ?_ ?_
                  · intro k41
                    refine g_vret rfl rfl ?_
                    exact ⟨_, rfl, hm39, hf40, rfl, fun j hj => by show (up (up (up (up (up (up (up (up (m.2.1 62) 32 (m.2.1 62 0)) 33 (m.2.1 62 1)) 34 (m.2.1 62 2)) 35 (m.2.1 62 3)) 36 (m.2.1 62 4)) 37 (m.2.1 62 5)) 38 (m.2.1 62 6)) 39 (m.2.1 62 7)) j = m.2.1 62 j; rw [up_ne _ (by omega), up_ne _ (by omega), up_ne _ (by omega), up_ne _ (by omega), up_ne _ (by omega), up_ne _ (by omega), up_ne _ (by omega), up_ne _ (by omega)]⟩
                  · intro k42
                    exfalso; omega
theorem d_copy_0_5 {V : cg_V} {d q : Nat} (hd : 0 ≤ d) (hq : 0 ≤ q) {m : kM} (hm : kI m) : cg_S V d q mX10_copy [vR 61, vI 0, vI 5] (kl m) (R_V (fun m' => (kI m') ∧ (fr [] [62] m m') ∧ (kr5 (m'.2.1 62) = kr0 (m.2.1 62)) ∧ (∀ j : Int, (j < 40 ∨ 48 ≤ j) → m'.2.1 62 j = m.2.1 62 j))) := by
  have hf0 : fr [] [62] m m := fr_rf m
  refine cg_of (List.mem_of_getElem? (show ae_MT[145]? = some mX10_copy from rfl)) (Nat.le_of_ble_eq_true rfl) ?_
  show cg_G V mX10_copy d q _ 0 [(0, vR 61), (1, vI 0), (2, vI 5)] [] (kl m) 0 0
  refine g_iconst rfl ?_
  refine g_istore_n (n := 3) (lo' := [(0, vR 61), (1, vI 0), (2, vI 5)]) rfl rfl ?_
  refine g_iload_n (n := 3) rfl rfl ?_
  refine g_bipush (by decide) rfl ?_
  refine g_icmp_ge (by decide) (by decide) (by decide) (by decide) rfl ?_ ?_
  · intro k1
    exfalso; omega
  · intro k2
    refine g_aload_n (n := 0) rfl rfl ?_
    refine g_getf (v := vR 62) rfl (kl_61 _) rfl ?_
    refine g_bipush (by decide) rfl ?_
    refine g_iload_n (n := 2) rfl rfl ?_
    refine g_imulE (z := 40) (by decide) rfl ?_
    refine g_iload_n (n := 3) rfl rfl ?_
    refine g_iaddE (z := 40) (by decide) rfl ?_
    refine g_aload_n (n := 0) rfl rfl ?_
    refine g_getf (v := vR 62) rfl (kl_61 _) rfl ?_
    refine g_bipush (by decide) rfl ?_
    refine g_iload_n (n := 1) rfl rfl ?_
    refine g_imulE (z := 0) (by decide) rfl ?_
    refine g_iload_n (n := 3) rfl rfl ?_
    refine g_iaddE (z := 0) (by decide) rfl ?_
    have h3 : (-2147483648) ≤ m.2.1 62 0 ∧ m.2.1 62 0 ≤ 2147483647 := hm.2 62 0 (by decide) (show (0 : Int) < 48 by decide)
    refine g_ialE (f := m.2.1 62) (v := m.2.1 62 0) rfl (kl_62 _) (by decide) (by decide) (by decide) rfl ?_
    refine g_iAst (f := m.2.1 62) (m' := (kA m 62 (up (m.2.1 62) 40 (m.2.1 62 0)))) rfl (kl_62 _) (by decide) (by omega) (by omega) (kA_62 _ _) ?_
    have hm4 : kI (kA m 62 (up (m.2.1 62) 40 (m.2.1 62 0))) := kI_U hm 62 rfl (show ((-2147483648) : Int) ≤ m.2.1 62 0 by omega) (show m.2.1 62 0 ≤ (2147483647 : Int) by omega)
    have hf5 : fr [] [62] m (kA m 62 (up (m.2.1 62) 40 (m.2.1 62 0))) := fr_A hf0 62 _ rfl
    refine g_iincE (z := 1) (by decide) (n := 3) (lo' := [(0, vR 61), (1, vI 0), (2, vI 5)]) rfl rfl rfl ?_
    refine g_goto rfl ?_
    refine g_iload_n (n := 3) rfl rfl ?_
    refine g_bipush (by decide) rfl ?_
    refine g_icmp_ge (by decide) (by decide) (by decide) (by decide) rfl ?_ ?_
    · intro k6
      exfalso; omega
    · intro k7
      refine g_aload_n (n := 0) rfl rfl ?_
      refine g_getf (v := vR 62) rfl (kl_61 _) rfl ?_
      refine g_bipush (by decide) rfl ?_
      refine g_iload_n (n := 2) rfl rfl ?_
      refine g_imulE (z := 40) (by decide) rfl ?_
      refine g_iload_n (n := 3) rfl rfl ?_
      refine g_iaddE (z := 41) (by decide) rfl ?_
      refine g_aload_n (n := 0) rfl rfl ?_
      refine g_getf (v := vR 62) rfl (kl_61 _) rfl ?_
      refine g_bipush (by decide) rfl ?_
      refine g_iload_n (n := 1) rfl rfl ?_
      refine g_imulE (z := 0) (by decide) rfl ?_
      refine g_iload_n (n := 3) rfl rfl ?_
      refine g_iaddE (z := 1) (by decide) rfl ?_
      have h8 : (-2147483648) ≤ m.2.1 62 1 ∧ m.2.1 62 1 ≤ 2147483647 := hm.2 62 1 (by decide) (show (1 : Int) < 48 by decide)
      refine g_ialE (f := up (m.2.1 62) 40 (m.2.1 62 0)) (v := m.2.1 62 1) rfl (kl_62 _) (by decide) (by decide) (by decide) rfl ?_
      refine g_iAst (f := up (m.2.1 62) 40 (m.2.1 62 0)) (m' := (kA (kA m 62 (up (m.2.1 62) 40 (m.2.1 62 0))) 62 (up (up (m.2.1 62) 40 (m.2.1 62 0)) 41 (m.2.1 62 1)))) rfl (kl_62 _) (by decide) (by omega) (by omega) (kA_62 _ _) ?_
      have hm9 : kI (kA (kA m 62 (up (m.2.1 62) 40 (m.2.1 62 0))) 62 (up (up (m.2.1 62) 40 (m.2.1 62 0)) 41 (m.2.1 62 1))) := kI_U hm4 62 rfl (show ((-2147483648) : Int) ≤ m.2.1 62 1 by omega) (show m.2.1 62 1 ≤ (2147483647 : Int) by omega)
      have hf10 : fr [] [62] m (kA (kA m 62 (up (m.2.1 62) 40 (m.2.1 62 0))) 62 (up (up (m.2.1 62) 40 (m.2.1 62 0)) 41 (m.2.1 62 1))) := fr_A hf5 62 _ rfl
      refine g_iincE (z := 2) (by decide) (n := 3) (lo' := [(0, vR 61), (1, vI 0), (2, vI 5)]) rfl rfl rfl ?_
      refine g_goto rfl ?_
      refine g_iload_n (n := 3) rfl rfl ?_
      refine g_bipush (by decide) rfl ?_
      refine g_icmp_ge (by decide) (by decide) (by decide) (by decide) rfl ?_ ?_
      · intro k11
        exfalso; omega
      · intro k12
        refine g_aload_n (n := 0) rfl rfl ?_
        refine g_getf (v := vR 62) rfl (kl_61 _) rfl ?_
        refine g_bipush (by decide) rfl ?_
        refine g_iload_n (n := 2) rfl rfl ?_
        refine g_imulE (z := 40) (by decide) rfl ?_
        refine g_iload_n (n := 3) rfl rfl ?_
        refine g_iaddE (z := 42) (by decide) rfl ?_
        refine g_aload_n (n := 0) rfl rfl ?_
        refine g_getf (v := vR 62) rfl (kl_61 _) rfl ?_
        refine g_bipush (by decide) rfl ?_
        refine g_iload_n (n := 1) rfl rfl ?_
        refine g_imulE (z := 0) (by decide) rfl ?_
        refine g_iload_n (n := 3) rfl rfl ?_
        refine g_iaddE (z := 2) (by decide) rfl ?_
        have h13 : (-2147483648) ≤ m.2.1 62 2 ∧ m.2.1 62 2 ≤ 2147483647 := hm.2 62 2 (by decide) (show (2 : Int) < 48 by decide)
        refine g_ialE (f := up (up (m.2.1 62) 40 (m.2.1 62 0)) 41 (m.2.1 62 1)) (v := m.2.1 62 2) rfl (kl_62 _) (by decide) (by decide) (by decide) rfl ?_
        refine g_iAst (f := up (up (m.2.1 62) 40 (m.2.1 62 0)) 41 (m.2.1 62 1)) (m' := (kA (kA (kA m 62 (up (m.2.1 62) 40 (m.2.1 62 0))) 62 (up (up (m.2.1 62) 40 (m.2.1 62 0)) 41 (m.2.1 62 1))) 62 (up (up (up (m.2.1 62) 40 (m.2.1 62 0)) 41 (m.2.1 62 1)) 42 (m.2.1 62 2)))) rfl (kl_62 _) (by decide) (by omega) (by omega) (kA_62 _ _) ?_
        have hm14 : kI (kA (kA (kA m 62 (up (m.2.1 62) 40 (m.2.1 62 0))) 62 (up (up (m.2.1 62) 40 (m.2.1 62 0)) 41 (m.2.1 62 1))) 62 (up (up (up (m.2.1 62) 40 (m.2.1 62 0)) 41 (m.2.1 62 1)) 42 (m.2.1 62 2))) := kI_U hm9 62 rfl (show ((-2147483648) : Int) ≤ m.2.1 62 2 by omega) (show m.2.1 62 2 ≤ (2147483647 : Int) by omega)
        have hf15 : fr [] [62] m (kA (kA (kA m 62 (up (m.2.1 62) 40 (m.2.1 62 0))) 62 (up (up (m.2.1 62) 40 (m.2.1 62 0)) 41 (m.2.1 62 1))) 62 (up (up (up (m.2.1 62) 40 (m.2.1 62 0)) 41 (m.2.1 62 1)) 42 (m.2.1 62 2))) := fr_A hf10 62 _ rfl
        refine g_iincE (z := 3) (by decide) (n := 3) (lo' := [(0, vR 61), (1, vI 0), (2, vI 5)]) rfl rfl rfl ?_
        refine g_goto rfl ?_
        refine g_iload_n (n := 3) rfl rfl ?_
        refine g_bipush (by decide) rfl ?_
        refine g_icmp_ge (by decide) (by decide) (by decide) (by decide) rfl ?_ ?_
        · intro k16
          exfalso; omega
        · intro k17
          refine g_aload_n (n := 0) rfl rfl ?_
          refine g_getf (v := vR 62) rfl (kl_61 _) rfl ?_
          refine g_bipush (by decide) rfl ?_
          refine g_iload_n (n := 2) rfl rfl ?_
          refine g_imulE (z := 40) (by decide) rfl ?_
          refine g_iload_n (n := 3) rfl rfl ?_
          refine g_iaddE (z := 43) (by decide) rfl ?_
          refine g_aload_n (n := 0) rfl rfl ?_
          refine g_getf (v := vR 62) rfl (kl_61 _) rfl ?_
          refine g_bipush (by decide) rfl ?_
          refine g_iload_n (n := 1) rfl rfl ?_
          refine g_imulE (z := 0) (by decide) rfl ?_
          refine g_iload_n (n := 3) rfl rfl ?_
          refine g_iaddE (z := 3) (by decide) rfl ?_
          have h18 : (-2147483648) ≤ m.2.1 62 3 ∧ m.2.1 62 3 ≤ 2147483647 := hm.2 62 3 (by decide) (show (3 : Int) < 48 by decide)
          refine g_ialE (f := up (up (up (m.2.1 62) 40 (m.2.1 62 0)) 41 (m.2.1 62 1)) 42 (m.2.1 62 2)) (v := m.2.1 62 3) rfl (kl_62 _) (by decide) (by decide) (by decide) rfl ?_
          refine g_iAst (f := up (up (up (m.2.1 62) 40 (m.2.1 62 0)) 41 (m.2.1 62 1)) 42 (m.2.1 62 2)) (m' := (kA (kA (kA (kA m 62 (up (m.2.1 62) 40 (m.2.1 62 0))) 62 (up (up (m.2.1 62) 40 (m.2.1 62 0)) 41 (m.2.1 62 1))) 62 (up (up (up (m.2.1 62) 40 (m.2.1 62 0)) 41 (m.2.1 62 1)) 42 (m.2.1 62 2))) 62 (up (up (up (up (m.2.1 62) 40 (m.2.1 62 0)) 41 (m.2.1 62 1)) 42 (m.2.1 62 2)) 43 (m.2.1 62 3)))) rfl (kl_62 _) (by decide) (by omega) (by omega) (kA_62 _ _) ?_
          have hm19 : kI (kA (kA (kA (kA m 62 (up (m.2.1 62) 40 (m.2.1 62 0))) 62 (up (up (m.2.1 62) 40 (m.2.1 62 0)) 41 (m.2.1 62 1))) 62 (up (up (up (m.2.1 62) 40 (m.2.1 62 0)) 41 (m.2.1 62 1)) 42 (m.2.1 62 2))) 62 (up (up (up (up (m.2.1 62) 40 (m.2.1 62 0)) 41 (m.2.1 62 1)) 42 (m.2.1 62 2)) 43 (m.2.1 62 3))) := kI_U hm14 62 rfl (show ((-2147483648) : Int) ≤ m.2.1 62 3 by omega) (show m.2.1 62 3 ≤ (2147483647 : Int) by omega)
          have hf20 : fr [] [62] m (kA (kA (kA (kA m 62 (up (m.2.1 62) 40 (m.2.1 62 0))) 62 (up (up (m.2.1 62) 40 (m.2.1 62 0)) 41 (m.2.1 62 1))) 62 (up (up (up (m.2.1 62) 40 (m.2.1 62 0)) 41 (m.2.1 62 1)) 42 (m.2.1 62 2))) 62 (up (up (up (up (m.2.1 62) 40 (m.2.1 62 0)) 41 (m.2.1 62 1)) 42 (m.2.1 62 2)) 43 (m.2.1 62 3))) := fr_A hf15 62 _ rfl
          refine g_iincE (z := 4) (by decide) (n := 3) (lo' := [(0, vR 61), (1, vI 0), (2, vI 5)]) rfl rfl rfl ?_
          refine g_goto rfl ?_
          refine g_iload_n (n := 3) rfl rfl ?_
          refine g_bipush (by decide) rfl ?_
          refine g_icmp_ge (by decide) (by decide) (by decide) (by decide) rfl ?_ ?_
          · intro k21
            exfalso; omega
          · intro k22
            refine g_aload_n (n := 0) rfl rfl ?_
            refine g_getf (v := vR 62) rfl (kl_61 _) rfl ?_
            refine g_bipush (by decide) rfl ?_
            refine g_iload_n (n := 2) rfl rfl ?_
            refine g_imulE (z := 40) (by decide) rfl ?_
            refine g_iload_n (n := 3) rfl rfl ?_
            refine g_iaddE (z := 44) (by decide) rfl ?_
            refine g_aload_n (n := 0) rfl rfl ?_
            refine g_getf (v := vR 62) rfl (kl_61 _) rfl ?_
            refine g_bipush (by decide) rfl ?_
            refine g_iload_n (n := 1) rfl rfl ?_
            refine g_imulE (z := 0) (by decide) rfl ?_
            refine g_iload_n (n := 3) rfl rfl ?_
            refine g_iaddE (z := 4) (by decide) rfl ?_
            have h23 : (-2147483648) ≤ m.2.1 62 4 ∧ m.2.1 62 4 ≤ 2147483647 := hm.2 62 4 (by decide) (show (4 : Int) < 48 by decide)
            refine g_ialE (f := up (up (up (up (m.2.1 62) 40 (m.2.1 62 0)) 41 (m.2.1 62 1)) 42 (m.2.1 62 2)) 43 (m.2.1 62 3)) (v := m.2.1 62 4) rfl (kl_62 _) (by decide) (by decide) (by decide) rfl ?_
            refine g_iAst (f := up (up (up (up (m.2.1 62) 40 (m.2.1 62 0)) 41 (m.2.1 62 1)) 42 (m.2.1 62 2)) 43 (m.2.1 62 3)) (m' := (kA (kA (kA (kA (kA m 62 (up (m.2.1 62) 40 (m.2.1 62 0))) 62 (up (up (m.2.1 62) 40 (m.2.1 62 0)) 41 (m.2.1 62 1))) 62 (up (up (up (m.2.1 62) 40 (m.2.1 62 0)) 41 (m.2.1 62 1)) 42 (m.2.1 62 2))) 62 (up (up (up (up (m.2.1 62) 40 (m.2.1 62 0)) 41 (m.2.1 62 1)) 42 (m.2.1 62 2)) 43 (m.2.1 62 3))) 62 (up (up (up (up (up (m.2.1 62) 40 (m.2.1 62 0)) 41 (m.2.1 62 1)) 42 (m.2.1 62 2)) 43 (m.2.1 62 3)) 44 (m.2.1 62 4)))) rfl (kl_62 _) (by decide) (by omega) (by omega) (kA_62 _ _) ?_
            have hm24 : kI (kA (kA (kA (kA (kA m 62 (up (m.2.1 62) 40 (m.2.1 62 0))) 62 (up (up (m.2.1 62) 40 (m.2.1 62 0)) 41 (m.2.1 62 1))) 62 (up (up (up (m.2.1 62) 40 (m.2.1 62 0)) 41 (m.2.1 62 1)) 42 (m.2.1 62 2))) 62 (up (up (up (up (m.2.1 62) 40 (m.2.1 62 0)) 41 (m.2.1 62 1)) 42 (m.2.1 62 2)) 43 (m.2.1 62 3))) 62 (up (up (up (up (up (m.2.1 62) 40 (m.2.1 62 0)) 41 (m.2.1 62 1)) 42 (m.2.1 62 2)) 43 (m.2.1 62 3)) 44 (m.2.1 62 4))) := kI_U hm19 62 rfl (show ((-2147483648) : Int) ≤ m.2.1 62 4 by omega) (show m.2.1 62 4 ≤ (2147483647 : Int) by omega)
            have hf25 : fr [] [62] m (kA (kA (kA (kA (kA m 62 (up (m.2.1 62) 40 (m.2.1 62 0))) 62 (up (up (m.2.1 62) 40 (m.2.1 62 0)) 41 (m.2.1 62 1))) 62 (up (up (up (m.2.1 62) 40 (m.2.1 62 0)) 41 (m.2.1 62 1)) 42 (m.2.1 62 2))) 62 (up (up (up (up (m.2.1 62) 40 (m.2.1 62 0)) 41 (m.2.1 62 1)) 42 (m.2.1 62 2)) 43 (m.2.1 62 3))) 62 (up (up (up (up (up (m.2.1 62) 40 (m.2.1 62 0)) 41 (m.2.1 62 1)) 42 (m.2.1 62 2)) 43 (m.2.1 62 3)) 44 (m.2.1 62 4))) := fr_A hf20 62 _ rfl
            refine g_iincE (z := 5) (by decide) (n := 3) (lo' := [(0, vR 61), (1, vI 0), (2, vI 5)]) rfl rfl rfl ?_
            refine g_goto rfl ?_
            refine g_iload_n (n := 3) rfl rfl ?_
            refine g_bipush (by decide) rfl ?_
            refine g_icmp_ge (by decide) (by decide) (by decide) (by decide) rfl ?_ ?_
            · intro k26
              exfalso; omega
            · intro k27
              refine g_aload_n (n := 0) rfl rfl ?_
              refine g_getf (v := vR 62) rfl (kl_61 _) rfl ?_
              refine g_bipush (by decide) rfl ?_
              refine g_iload_n (n := 2) rfl rfl ?_
              refine g_imulE (z := 40) (by decide) rfl ?_
              refine g_iload_n (n := 3) rfl rfl ?_
              refine g_iaddE (z := 45) (by decide) rfl ?_
              refine g_aload_n (n := 0) rfl rfl ?_
              refine g_getf (v := vR 62) rfl (kl_61 _) rfl ?_
              refine g_bipush (by decide) rfl ?_
              refine g_iload_n (n := 1) rfl rfl ?_
              refine g_imulE (z := 0) (by decide) rfl ?_
              refine g_iload_n (n := 3) rfl rfl ?_
              refine g_iaddE (z := 5) (by decide) rfl ?_
              have h28 : (-2147483648) ≤ m.2.1 62 5 ∧ m.2.1 62 5 ≤ 2147483647 := hm.2 62 5 (by decide) (show (5 : Int) < 48 by decide)
              refine g_ialE (f := up (up (up (up (up (m.2.1 62) 40 (m.2.1 62 0)) 41 (m.2.1 62 1)) 42 (m.2.1 62 2)) 43 (m.2.1 62 3)) 44 (m.2.1 62 4)) (v := m.2.1 62 5) rfl (kl_62 _) (by decide) (by decide) (by decide) rfl ?_
              refine g_iAst (f := up (up (up (up (up (m.2.1 62) 40 (m.2.1 62 0)) 41 (m.2.1 62 1)) 42 (m.2.1 62 2)) 43 (m.2.1 62 3)) 44 (m.2.1 62 4)) (m' := (kA (kA (kA (kA (kA (kA m 62 (up (m.2.1 62) 40 (m.2.1 62 0))) 62 (up (up (m.2.1 62) 40 (m.2.1 62 0)) 41 (m.2.1 62 1))) 62 (up (up (up (m.2.1 62) 40 (m.2.1 62 0)) 41 (m.2.1 62 1)) 42 (m.2.1 62 2))) 62 (up (up (up (up (m.2.1 62) 40 (m.2.1 62 0)) 41 (m.2.1 62 1)) 42 (m.2.1 62 2)) 43 (m.2.1 62 3))) 62 (up (up (up (up (up (m.2.1 62) 40 (m.2.1 62 0)) 41 (m.2.1 62 1)) 42 (m.2.1 62 2)) 43 (m.2.1 62 3)) 44 (m.2.1 62 4))) 62 (up (up (up (up (up (up (m.2.1 62) 40 (m.2.1 62 0)) 41 (m.2.1 62 1)) 42 (m.2.1 62 2)) 43 (m.2.1 62 3)) 44 (m.2.1 62 4)) 45 (m.2.1 62 5)))) rfl (kl_62 _) (by decide) (by omega) (by omega) (kA_62 _ _) ?_
              have hm29 : kI (kA (kA (kA (kA (kA (kA m 62 (up (m.2.1 62) 40 (m.2.1 62 0))) 62 (up (up (m.2.1 62) 40 (m.2.1 62 0)) 41 (m.2.1 62 1))) 62 (up (up (up (m.2.1 62) 40 (m.2.1 62 0)) 41 (m.2.1 62 1)) 42 (m.2.1 62 2))) 62 (up (up (up (up (m.2.1 62) 40 (m.2.1 62 0)) 41 (m.2.1 62 1)) 42 (m.2.1 62 2)) 43 (m.2.1 62 3))) 62 (up (up (up (up (up (m.2.1 62) 40 (m.2.1 62 0)) 41 (m.2.1 62 1)) 42 (m.2.1 62 2)) 43 (m.2.1 62 3)) 44 (m.2.1 62 4))) 62 (up (up (up (up (up (up (m.2.1 62) 40 (m.2.1 62 0)) 41 (m.2.1 62 1)) 42 (m.2.1 62 2)) 43 (m.2.1 62 3)) 44 (m.2.1 62 4)) 45 (m.2.1 62 5))) := kI_U hm24 62 rfl (show ((-2147483648) : Int) ≤ m.2.1 62 5 by omega) (show m.2.1 62 5 ≤ (2147483647 : Int) by omega)
              have hf30 : fr [] [62] m (kA (kA (kA (kA (kA (kA m 62 (up (m.2.1 62) 40 (m.2.1 62 0))) 62 (up (up (m.2.1 62) 40 (m.2.1 62 0)) 41 (m.2.1 62 1))) 62 (up (up (up (m.2.1 62) 40 (m.2.1 62 0)) 41 (m.2.1 62 1)) 42 (m.2.1 62 2))) 62 (up (up (up (up (m.2.1 62) 40 (m.2.1 62 0)) 41 (m.2.1 62 1)) 42 (m.2.1 62 2)) 43 (m.2.1 62 3))) 62 (up (up (up (up (up (m.2.1 62) 40 (m.2.1 62 0)) 41 (m.2.1 62 1)) 42 (m.2.1 62 2)) 43 (m.2.1 62 3)) 44 (m.2.1 62 4))) 62 (up (up (up (up (up (up (m.2.1 62) 40 (m.2.1 62 0)) 41 (m.2.1 62 1)) 42 (m.2.1 62 2)) 43 (m.2.1 62 3)) 44 (m.2.1 62 4)) 45 (m.2.1 62 5))) := fr_A hf25 62 _ rfl
              refine g_iincE (z := 6) (by decide) (n := 3) (lo' := [(0, vR 61), (1, vI 0), (2, vI 5)]) rfl rfl rfl ?_
              refine g_goto rfl ?_
              refine g_iload_n (n := 3) rfl rfl ?_
              refine g_bipush (by decide) rfl ?_
              refine g_icmp_ge (by decide) (by decide) (by decide) (by decide) rfl ?_ ?_
              · intro k31
                exfalso; omega
              · intro k32
                refine g_aload_n (n := 0) rfl rfl ?_
                refine g_getf (v := vR 62) rfl (kl_61 _) rfl ?_
                refine g_bipush (by decide) rfl ?_
                refine g_iload_n (n := 2) rfl rfl ?_
                refine g_imulE (z := 40) (by decide) rfl ?_
                refine g_iload_n (n := 3) rfl rfl ?_
                refine g_iaddE (z := 46) (by decide) rfl ?_
                refine g_aload_n (n := 0) rfl rfl ?_
                refine g_getf (v := vR 62) rfl (kl_61 _) rfl ?_
                refine g_bipush (by decide) rfl ?_
                refine g_iload_n (n := 1) rfl rfl ?_
                refine g_imulE (z := 0) (by decide) rfl ?_
                refine g_iload_n (n := 3) rfl rfl ?_
                refine g_iaddE (z := 6) (by decide) rfl ?_
                have h33 : (-2147483648) ≤ m.2.1 62 6 ∧ m.2.1 62 6 ≤ 2147483647 := hm.2 62 6 (by decide) (show (6 : Int) < 48 by decide)
                refine g_ialE (f := up (up (up (up (up (up (m.2.1 62) 40 (m.2.1 62 0)) 41 (m.2.1 62 1)) 42 (m.2.1 62 2)) 43 (m.2.1 62 3)) 44 (m.2.1 62 4)) 45 (m.2.1 62 5)) (v := m.2.1 62 6) rfl (kl_62 _) (by decide) (by decide) (by decide) rfl ?_
                refine g_iAst (f := up (up (up (up (up (up (m.2.1 62) 40 (m.2.1 62 0)) 41 (m.2.1 62 1)) 42 (m.2.1 62 2)) 43 (m.2.1 62 3)) 44 (m.2.1 62 4)) 45 (m.2.1 62 5)) (m' := (kA (kA (kA (kA (kA (kA (kA m 62 (up (m.2.1 62) 40 (m.2.1 62 0))) 62 (up (up (m.2.1 62) 40 (m.2.1 62 0)) 41 (m.2.1 62 1))) 62 (up (up (up (m.2.1 62) 40 (m.2.1 62 0)) 41 (m.2.1 62 1)) 42 (m.2.1 62 2))) 62 (up (up (up (up (m.2.1 62) 40 (m.2.1 62 0)) 41 (m.2.1 62 1)) 42 (m.2.1 62 2)) 43 (m.2.1 62 3))) 62 (up (up (up (up (up (m.2.1 62) 40 (m.2.1 62 0)) 41 (m.2.1 62 1)) 42 (m.2.1 62 2)) 43 (m.2.1 62 3)) 44 (m.2.1 62 4))) 62 (up (up (up (up (up (up (m.2.1 62) 40 (m.2.1 62 0)) 41 (m.2.1 62 1)) 42 (m.2.1 62 2)) 43 (m.2.1 62 3)) 44 (m.2.1 62 4)) 45 (m.2.1 62 5))) 62 (up (up (up (up (up (up (up (m.2.1 62) 40 (m.2.1 62 0)) 41 (m.2.1 62 1)) 42 (m.2.1 62 2)) 43 (m.2.1 62 3)) 44 (m.2.1 62 4)) 45 (m.2.1 62 5)) 46 (m.2.1 62 6)))) rfl (kl_62 _) (by decide) (by omega) (by omega) (kA_62 _ _) ?_
                have hm34 : kI (kA (kA (kA (kA (kA (kA (kA m 62 (up (m.2.1 62) 40 (m.2.1 62 0))) 62 (up (up (m.2.1 62) 40 (m.2.1 62 0)) 41 (m.2.1 62 1))) 62 (up (up (up (m.2.1 62) 40 (m.2.1 62 0)) 41 (m.2.1 62 1)) 42 (m.2.1 62 2))) 62 (up (up (up (up (m.2.1 62) 40 (m.2.1 62 0)) 41 (m.2.1 62 1)) 42 (m.2.1 62 2)) 43 (m.2.1 62 3))) 62 (up (up (up (up (up (m.2.1 62) 40 (m.2.1 62 0)) 41 (m.2.1 62 1)) 42 (m.2.1 62 2)) 43 (m.2.1 62 3)) 44 (m.2.1 62 4))) 62 (up (up (up (up (up (up (m.2.1 62) 40 (m.2.1 62 0)) 41 (m.2.1 62 1)) 42 (m.2.1 62 2)) 43 (m.2.1 62 3)) 44 (m.2.1 62 4)) 45 (m.2.1 62 5))) 62 (up (up (up (up (up (up (up (m.2.1 62) 40 (m.2.1 62 0)) 41 (m.2.1 62 1)) 42 (m.2.1 62 2)) 43 (m.2.1 62 3)) 44 (m.2.1 62 4)) 45 (m.2.1 62 5)) 46 (m.2.1 62 6))) := kI_U hm29 62 rfl (show ((-2147483648) : Int) ≤ m.2.1 62 6 by omega) (show m.2.1 62 6 ≤ (2147483647 : Int) by omega)
                have hf35 : fr [] [62] m (kA (kA (kA (kA (kA (kA (kA m 62 (up (m.2.1 62) 40 (m.2.1 62 0))) 62 (up (up (m.2.1 62) 40 (m.2.1 62 0)) 41 (m.2.1 62 1))) 62 (up (up (up (m.2.1 62) 40 (m.2.1 62 0)) 41 (m.2.1 62 1)) 42 (m.2.1 62 2))) 62 (up (up (up (up (m.2.1 62) 40 (m.2.1 62 0)) 41 (m.2.1 62 1)) 42 (m.2.1 62 2)) 43 (m.2.1 62 3))) 62 (up (up (up (up (up (m.2.1 62) 40 (m.2.1 62 0)) 41 (m.2.1 62 1)) 42 (m.2.1 62 2)) 43 (m.2.1 62 3)) 44 (m.2.1 62 4))) 62 (up (up (up (up (up (up (m.2.1 62) 40 (m.2.1 62 0)) 41 (m.2.1 62 1)) 42 (m.2.1 62 2)) 43 (m.2.1 62 3)) 44 (m.2.1 62 4)) 45 (m.2.1 62 5))) 62 (up (up (up (up (up (up (up (m.2.1 62) 40 (m.2.1 62 0)) 41 (m.2.1 62 1)) 42 (m.2.1 62 2)) 43 (m.2.1 62 3)) 44 (m.2.1 62 4)) 45 (m.2.1 62 5)) 46 (m.2.1 62 6))) := fr_A hf30 62 _ rfl
                refine g_iincE (z := 7) (by decide) (n := 3) (lo' := [(0, vR 61), (1, vI 0), (2, vI 5)]) rfl rfl rfl ?_
                refine g_goto rfl ?_
                refine g_iload_n (n := 3) rfl rfl ?_
                refine g_bipush (by decide) rfl ?_
                refine g_icmp_ge (by decide) (by decide) (by decide) (by decide) rfl ?_ ?_
                · intro k36
                  exfalso; omega
                · intro k37
                  refine g_aload_n (n := 0) rfl rfl ?_
                  refine g_getf (v := vR 62) rfl (kl_61 _) rfl ?_
                  refine g_bipush (by decide) rfl ?_
                  refine g_iload_n (n := 2) rfl rfl ?_
                  refine g_imulE (z := 40) (by decide) rfl ?_
                  refine g_iload_n (n := 3) rfl rfl ?_
                  refine g_iaddE (z := 47) (by decide) rfl ?_
                  refine g_aload_n (n := 0) rfl rfl ?_
                  refine g_getf (v := vR 62) rfl (kl_61 _) rfl ?_
                  refine g_bipush (by decide) rfl ?_
                  refine g_iload_n (n := 1) rfl rfl ?_
                  refine g_imulE (z := 0) (by decide) rfl ?_
                  refine g_iload_n (n := 3) rfl rfl ?_
                  refine g_iaddE (z := 7) (by decide) rfl ?_
                  have h38 : (-2147483648) ≤ m.2.1 62 7 ∧ m.2.1 62 7 ≤ 2147483647 := hm.2 62 7 (by decide) (show (7 : Int) < 48 by decide)
                  refine g_ialE (f := up (up (up (up (up (up (up (m.2.1 62) 40 (m.2.1 62 0)) 41 (m.2.1 62 1)) 42 (m.2.1 62 2)) 43 (m.2.1 62 3)) 44 (m.2.1 62 4)) 45 (m.2.1 62 5)) 46 (m.2.1 62 6)) (v := m.2.1 62 7) rfl (kl_62 _) (by decide) (by decide) (by decide) rfl ?_
                  refine g_iAst (f := up (up (up (up (up (up (up (m.2.1 62) 40 (m.2.1 62 0)) 41 (m.2.1 62 1)) 42 (m.2.1 62 2)) 43 (m.2.1 62 3)) 44 (m.2.1 62 4)) 45 (m.2.1 62 5)) 46 (m.2.1 62 6)) (m' := (kA (kA (kA (kA (kA (kA (kA (kA m 62 (up (m.2.1 62) 40 (m.2.1 62 0))) 62 (up (up (m.2.1 62) 40 (m.2.1 62 0)) 41 (m.2.1 62 1))) 62 (up (up (up (m.2.1 62) 40 (m.2.1 62 0)) 41 (m.2.1 62 1)) 42 (m.2.1 62 2))) 62 (up (up (up (up (m.2.1 62) 40 (m.2.1 62 0)) 41 (m.2.1 62 1)) 42 (m.2.1 62 2)) 43 (m.2.1 62 3))) 62 (up (up (up (up (up (m.2.1 62) 40 (m.2.1 62 0)) 41 (m.2.1 62 1)) 42 (m.2.1 62 2)) 43 (m.2.1 62 3)) 44 (m.2.1 62 4))) 62 (up (up (up (up (up (up (m.2.1 62) 40 (m.2.1 62 0)) 41 (m.2.1 62 1)) 42 (m.2.1 62 2)) 43 (m.2.1 62 3)) 44 (m.2.1 62 4)) 45 (m.2.1 62 5))) 62 (up (up (up (up (up (up (up (m.2.1 62) 40 (m.2.1 62 0)) 41 (m.2.1 62 1)) 42 (m.2.1 62 2)) 43 (m.2.1 62 3)) 44 (m.2.1 62 4)) 45 (m.2.1 62 5)) 46 (m.2.1 62 6))) 62 (up (up (up (up (up (up (up (up (m.2.1 62) 40 (m.2.1 62 0)) 41 (m.2.1 62 1)) 42 (m.2.1 62 2)) 43 (m.2.1 62 3)) 44 (m.2.1 62 4)) 45 (m.2.1 62 5)) 46 (m.2.1 62 6)) 47 (m.2.1 62 7)))) rfl (kl_62 _) (by decide) (by omega) (by omega) (kA_62 _ _) ?_
                  have hm39 : kI (kA (kA (kA (kA (kA (kA (kA (kA m 62 (up (m.2.1 62) 40 (m.2.1 62 0))) 62 (up (up (m.2.1 62) 40 (m.2.1 62 0)) 41 (m.2.1 62 1))) 62 (up (up (up (m.2.1 62) 40 (m.2.1 62 0)) 41 (m.2.1 62 1)) 42 (m.2.1 62 2))) 62 (up (up (up (up (m.2.1 62) 40 (m.2.1 62 0)) 41 (m.2.1 62 1)) 42 (m.2.1 62 2)) 43 (m.2.1 62 3))) 62 (up (up (up (up (up (m.2.1 62) 40 (m.2.1 62 0)) 41 (m.2.1 62 1)) 42 (m.2.1 62 2)) 43 (m.2.1 62 3)) 44 (m.2.1 62 4))) 62 (up (up (up (up (up (up (m.2.1 62) 40 (m.2.1 62 0)) 41 (m.2.1 62 1)) 42 (m.2.1 62 2)) 43 (m.2.1 62 3)) 44 (m.2.1 62 4)) 45 (m.2.1 62 5))) 62 (up (up (up (up (up (up (up (m.2.1 62) 40 (m.2.1 62 0)) 41 (m.2.1 62 1)) 42 (m.2.1 62 2)) 43 (m.2.1 62 3)) 44 (m.2.1 62 4)) 45 (m.2.1 62 5)) 46 (m.2.1 62 6))) 62 (up (up (up (up (up (up (up (up (m.2.1 62) 40 (m.2.1 62 0)) 41 (m.2.1 62 1)) 42 (m.2.1 62 2)) 43 (m.2.1 62 3)) 44 (m.2.1 62 4)) 45 (m.2.1 62 5)) 46 (m.2.1 62 6)) 47 (m.2.1 62 7))) := kI_U hm34 62 rfl (show ((-2147483648) : Int) ≤ m.2.1 62 7 by omega) (show m.2.1 62 7 ≤ (2147483647 : Int) by omega)
                  have hf40 : fr [] [62] m (kA (kA (kA (kA (kA (kA (kA (kA m 62 (up (m.2.1 62) 40 (m.2.1 62 0))) 62 (up (up (m.2.1 62) 40 (m.2.1 62 0)) 41 (m.2.1 62 1))) 62 (up (up (up (m.2.1 62) 40 (m.2.1 62 0)) 41 (m.2.1 62 1)) 42 (m.2.1 62 2))) 62 (up (up (up (up (m.2.1 62) 40 (m.2.1 62 0)) 41 (m.2.1 62 1)) 42 (m.2.1 62 2)) 43 (m.2.1 62 3))) 62 (up (up (up (up (up (m.2.1 62) 40 (m.2.1 62 0)) 41 (m.2.1 62 1)) 42 (m.2.1 62 2)) 43 (m.2.1 62 3)) 44 (m.2.1 62 4))) 62 (up (up (up (up (up (up (m.2.1 62) 40 (m.2.1 62 0)) 41 (m.2.1 62 1)) 42 (m.2.1 62 2)) 43 (m.2.1 62 3)) 44 (m.2.1 62 4)) 45 (m.2.1 62 5))) 62 (up (up (up (up (up (up (up (m.2.1 62) 40 (m.2.1 62 0)) 41 (m.2.1 62 1)) 42 (m.2.1 62 2)) 43 (m.2.1 62 3)) 44 (m.2.1 62 4)) 45 (m.2.1 62 5)) 46 (m.2.1 62 6))) 62 (up (up (up (up (up (up (up (up (m.2.1 62) 40 (m.2.1 62 0)) 41 (m.2.1 62 1)) 42 (m.2.1 62 2)) 43 (m.2.1 62 3)) 44 (m.2.1 62 4)) 45 (m.2.1 62 5)) 46 (m.2.1 62 6)) 47 (m.2.1 62 7))) := fr_A hf35 62 _ rfl
                  refine g_iincE (z := 8) (by decide) (n := 3) (lo' := [(0, vR 61), (1, vI 0), (2, vI 5)]) rfl rfl rfl ?_
                  refine g_goto rfl ?_
                  refine g_iload_n (n := 3) rfl rfl ?_
                  refine g_bipush (by decide) rfl ?_
                  refine g_icmp_ge (by decide) (by decide) (by decide) (by decide) rfl ?_ ?_
                  · intro k41
                    refine g_vret rfl rfl ?_
                    exact ⟨_, rfl, hm39, hf40, rfl, fun j hj => by show (up (up (up (up (up (up (up (up (m.2.1 62) 40 (m.2.1 62 0)) 41 (m.2.1 62 1)) 42 (m.2.1 62 2)) 43 (m.2.1 62 3)) 44 (m.2.1 62 4)) 45 (m.2.1 62 5)) 46 (m.2.1 62 6)) 47 (m.2.1 62 7)) j = m.2.1 62 j; rw [up_ne _ (by omega), up_ne _ (by omega), up_ne _ (by omega), up_ne _ (by omega), up_ne _ (by omega), up_ne _ (by omega), up_ne _ (by omega), up_ne _ (by omega)]⟩
                  · intro k42
                    exfalso; omega
theorem d_copy_3_4 {V : cg_V} {d q : Nat} (hd : 0 ≤ d) (hq : 0 ≤ q) {m : kM} (hm : kI m) : cg_S V d q mX10_copy [vR 61, vI 3, vI 4] (kl m) (R_V (fun m' => (kI m') ∧ (fr [] [62] m m') ∧ (kr4 (m'.2.1 62) = kr3 (m.2.1 62)) ∧ (∀ j : Int, (j < 32 ∨ 40 ≤ j) → m'.2.1 62 j = m.2.1 62 j))) := by
  have hf0 : fr [] [62] m m := fr_rf m
  refine cg_of (List.mem_of_getElem? (show ae_MT[145]? = some mX10_copy from rfl)) (Nat.le_of_ble_eq_true rfl) ?_
  show cg_G V mX10_copy d q _ 0 [(0, vR 61), (1, vI 3), (2, vI 4)] [] (kl m) 0 0
  refine g_iconst rfl ?_
  refine g_istore_n (n := 3) (lo' := [(0, vR 61), (1, vI 3), (2, vI 4)]) rfl rfl ?_
  refine g_iload_n (n := 3) rfl rfl ?_
  refine g_bipush (by decide) rfl ?_
  refine g_icmp_ge (by decide) (by decide) (by decide) (by decide) rfl ?_ ?_
  · intro k1
    exfalso; omega
  · intro k2
    refine g_aload_n (n := 0) rfl rfl ?_
    refine g_getf (v := vR 62) rfl (kl_61 _) rfl ?_
    refine g_bipush (by decide) rfl ?_
    refine g_iload_n (n := 2) rfl rfl ?_
    refine g_imulE (z := 32) (by decide) rfl ?_
    refine g_iload_n (n := 3) rfl rfl ?_
    refine g_iaddE (z := 32) (by decide) rfl ?_
    refine g_aload_n (n := 0) rfl rfl ?_
    refine g_getf (v := vR 62) rfl (kl_61 _) rfl ?_
    refine g_bipush (by decide) rfl ?_
    refine g_iload_n (n := 1) rfl rfl ?_
    refine g_imulE (z := 24) (by decide) rfl ?_
    refine g_iload_n (n := 3) rfl rfl ?_
    refine g_iaddE (z := 24) (by decide) rfl ?_
    have h3 : (-2147483648) ≤ m.2.1 62 24 ∧ m.2.1 62 24 ≤ 2147483647 := hm.2 62 24 (by decide) (show (24 : Int) < 48 by decide)
    refine g_ialE (f := m.2.1 62) (v := m.2.1 62 24) rfl (kl_62 _) (by decide) (by decide) (by decide) rfl ?_
    refine g_iAst (f := m.2.1 62) (m' := (kA m 62 (up (m.2.1 62) 32 (m.2.1 62 24)))) rfl (kl_62 _) (by decide) (by omega) (by omega) (kA_62 _ _) ?_
    have hm4 : kI (kA m 62 (up (m.2.1 62) 32 (m.2.1 62 24))) := kI_U hm 62 rfl (show ((-2147483648) : Int) ≤ m.2.1 62 24 by omega) (show m.2.1 62 24 ≤ (2147483647 : Int) by omega)
    have hf5 : fr [] [62] m (kA m 62 (up (m.2.1 62) 32 (m.2.1 62 24))) := fr_A hf0 62 _ rfl
    refine g_iincE (z := 1) (by decide) (n := 3) (lo' := [(0, vR 61), (1, vI 3), (2, vI 4)]) rfl rfl rfl ?_
    refine g_goto rfl ?_
    refine g_iload_n (n := 3) rfl rfl ?_
    refine g_bipush (by decide) rfl ?_
    refine g_icmp_ge (by decide) (by decide) (by decide) (by decide) rfl ?_ ?_
    · intro k6
      exfalso; omega
    · intro k7
      refine g_aload_n (n := 0) rfl rfl ?_
      refine g_getf (v := vR 62) rfl (kl_61 _) rfl ?_
      refine g_bipush (by decide) rfl ?_
      refine g_iload_n (n := 2) rfl rfl ?_
      refine g_imulE (z := 32) (by decide) rfl ?_
      refine g_iload_n (n := 3) rfl rfl ?_
      refine g_iaddE (z := 33) (by decide) rfl ?_
      refine g_aload_n (n := 0) rfl rfl ?_
      refine g_getf (v := vR 62) rfl (kl_61 _) rfl ?_
      refine g_bipush (by decide) rfl ?_
      refine g_iload_n (n := 1) rfl rfl ?_
      refine g_imulE (z := 24) (by decide) rfl ?_
      refine g_iload_n (n := 3) rfl rfl ?_
      refine g_iaddE (z := 25) (by decide) rfl ?_
      have h8 : (-2147483648) ≤ m.2.1 62 25 ∧ m.2.1 62 25 ≤ 2147483647 := hm.2 62 25 (by decide) (show (25 : Int) < 48 by decide)
      refine g_ialE (f := up (m.2.1 62) 32 (m.2.1 62 24)) (v := m.2.1 62 25) rfl (kl_62 _) (by decide) (by decide) (by decide) rfl ?_
      refine g_iAst (f := up (m.2.1 62) 32 (m.2.1 62 24)) (m' := (kA (kA m 62 (up (m.2.1 62) 32 (m.2.1 62 24))) 62 (up (up (m.2.1 62) 32 (m.2.1 62 24)) 33 (m.2.1 62 25)))) rfl (kl_62 _) (by decide) (by omega) (by omega) (kA_62 _ _) ?_
      have hm9 : kI (kA (kA m 62 (up (m.2.1 62) 32 (m.2.1 62 24))) 62 (up (up (m.2.1 62) 32 (m.2.1 62 24)) 33 (m.2.1 62 25))) := kI_U hm4 62 rfl (show ((-2147483648) : Int) ≤ m.2.1 62 25 by omega) (show m.2.1 62 25 ≤ (2147483647 : Int) by omega)
      have hf10 : fr [] [62] m (kA (kA m 62 (up (m.2.1 62) 32 (m.2.1 62 24))) 62 (up (up (m.2.1 62) 32 (m.2.1 62 24)) 33 (m.2.1 62 25))) := fr_A hf5 62 _ rfl
      refine g_iincE (z := 2) (by decide) (n := 3) (lo' := [(0, vR 61), (1, vI 3), (2, vI 4)]) rfl rfl rfl ?_
      refine g_goto rfl ?_
      refine g_iload_n (n := 3) rfl rfl ?_
      refine g_bipush (by decide) rfl ?_
      refine g_icmp_ge (by decide) (by decide) (by decide) (by decide) rfl ?_ ?_
      · intro k11
        exfalso; omega
      · intro k12
        refine g_aload_n (n := 0) rfl rfl ?_
        refine g_getf (v := vR 62) rfl (kl_61 _) rfl ?_
        refine g_bipush (by decide) rfl ?_
        refine g_iload_n (n := 2) rfl rfl ?_
        refine g_imulE (z := 32) (by decide) rfl ?_
        refine g_iload_n (n := 3) rfl rfl ?_
        refine g_iaddE (z := 34) (by decide) rfl ?_
        refine g_aload_n (n := 0) rfl rfl ?_
        refine g_getf (v := vR 62) rfl (kl_61 _) rfl ?_
        refine g_bipush (by decide) rfl ?_
        refine g_iload_n (n := 1) rfl rfl ?_
        refine g_imulE (z := 24) (by decide) rfl ?_
        refine g_iload_n (n := 3) rfl rfl ?_
        refine g_iaddE (z := 26) (by decide) rfl ?_
        have h13 : (-2147483648) ≤ m.2.1 62 26 ∧ m.2.1 62 26 ≤ 2147483647 := hm.2 62 26 (by decide) (show (26 : Int) < 48 by decide)
        refine g_ialE (f := up (up (m.2.1 62) 32 (m.2.1 62 24)) 33 (m.2.1 62 25)) (v := m.2.1 62 26) rfl (kl_62 _) (by decide) (by decide) (by decide) rfl ?_
        refine g_iAst (f := up (up (m.2.1 62) 32 (m.2.1 62 24)) 33 (m.2.1 62 25)) (m' := (kA (kA (kA m 62 (up (m.2.1 62) 32 (m.2.1 62 24))) 62 (up (up (m.2.1 62) 32 (m.2.1 62 24)) 33 (m.2.1 62 25))) 62 (up (up (up (m.2.1 62) 32 (m.2.1 62 24)) 33 (m.2.1 62 25)) 34 (m.2.1 62 26)))) rfl (kl_62 _) (by decide) (by omega) (by omega) (kA_62 _ _) ?_
        have hm14 : kI (kA (kA (kA m 62 (up (m.2.1 62) 32 (m.2.1 62 24))) 62 (up (up (m.2.1 62) 32 (m.2.1 62 24)) 33 (m.2.1 62 25))) 62 (up (up (up (m.2.1 62) 32 (m.2.1 62 24)) 33 (m.2.1 62 25)) 34 (m.2.1 62 26))) := kI_U hm9 62 rfl (show ((-2147483648) : Int) ≤ m.2.1 62 26 by omega) (show m.2.1 62 26 ≤ (2147483647 : Int) by omega)
        have hf15 : fr [] [62] m (kA (kA (kA m 62 (up (m.2.1 62) 32 (m.2.1 62 24))) 62 (up (up (m.2.1 62) 32 (m.2.1 62 24)) 33 (m.2.1 62 25))) 62 (up (up (up (m.2.1 62) 32 (m.2.1 62 24)) 33 (m.2.1 62 25)) 34 (m.2.1 62 26))) := fr_A hf10 62 _ rfl
        refine g_iincE (z := 3) (by decide) (n := 3) (lo' := [(0, vR 61), (1, vI 3), (2, vI 4)]) rfl rfl rfl ?_
        refine g_goto rfl ?_
        refine g_iload_n (n := 3) rfl rfl ?_
        refine g_bipush (by decide) rfl ?_
        refine g_icmp_ge (by decide) (by decide) (by decide) (by decide) rfl ?_ ?_
        · intro k16
          exfalso; omega
        · intro k17
          refine g_aload_n (n := 0) rfl rfl ?_
          refine g_getf (v := vR 62) rfl (kl_61 _) rfl ?_
          refine g_bipush (by decide) rfl ?_
          refine g_iload_n (n := 2) rfl rfl ?_
          refine g_imulE (z := 32) (by decide) rfl ?_
          refine g_iload_n (n := 3) rfl rfl ?_
          refine g_iaddE (z := 35) (by decide) rfl ?_
          refine g_aload_n (n := 0) rfl rfl ?_
          refine g_getf (v := vR 62) rfl (kl_61 _) rfl ?_
          refine g_bipush (by decide) rfl ?_
          refine g_iload_n (n := 1) rfl rfl ?_
          refine g_imulE (z := 24) (by decide) rfl ?_
          refine g_iload_n (n := 3) rfl rfl ?_
          refine g_iaddE (z := 27) (by decide) rfl ?_
          have h18 : (-2147483648) ≤ m.2.1 62 27 ∧ m.2.1 62 27 ≤ 2147483647 := hm.2 62 27 (by decide) (show (27 : Int) < 48 by decide)
          refine g_ialE (f := up (up (up (m.2.1 62) 32 (m.2.1 62 24)) 33 (m.2.1 62 25)) 34 (m.2.1 62 26)) (v := m.2.1 62 27) rfl (kl_62 _) (by decide) (by decide) (by decide) rfl ?_
          refine g_iAst (f := up (up (up (m.2.1 62) 32 (m.2.1 62 24)) 33 (m.2.1 62 25)) 34 (m.2.1 62 26)) (m' := (kA (kA (kA (kA m 62 (up (m.2.1 62) 32 (m.2.1 62 24))) 62 (up (up (m.2.1 62) 32 (m.2.1 62 24)) 33 (m.2.1 62 25))) 62 (up (up (up (m.2.1 62) 32 (m.2.1 62 24)) 33 (m.2.1 62 25)) 34 (m.2.1 62 26))) 62 (up (up (up (up (m.2.1 62) 32 (m.2.1 62 24)) 33 (m.2.1 62 25)) 34 (m.2.1 62 26)) 35 (m.2.1 62 27)))) rfl (kl_62 _) (by decide) (by omega) (by omega) (kA_62 _ _) ?_
          have hm19 : kI (kA (kA (kA (kA m 62 (up (m.2.1 62) 32 (m.2.1 62 24))) 62 (up (up (m.2.1 62) 32 (m.2.1 62 24)) 33 (m.2.1 62 25))) 62 (up (up (up (m.2.1 62) 32 (m.2.1 62 24)) 33 (m.2.1 62 25)) 34 (m.2.1 62 26))) 62 (up (up (up (up (m.2.1 62) 32 (m.2.1 62 24)) 33 (m.2.1 62 25)) 34 (m.2.1 62 26)) 35 (m.2.1 62 27))) := kI_U hm14 62 rfl (show ((-2147483648) : Int) ≤ m.2.1 62 27 by omega) (show m.2.1 62 27 ≤ (2147483647 : Int) by omega)
          have hf20 : fr [] [62] m (kA (kA (kA (kA m 62 (up (m.2.1 62) 32 (m.2.1 62 24))) 62 (up (up (m.2.1 62) 32 (m.2.1 62 24)) 33 (m.2.1 62 25))) 62 (up (up (up (m.2.1 62) 32 (m.2.1 62 24)) 33 (m.2.1 62 25)) 34 (m.2.1 62 26))) 62 (up (up (up (up (m.2.1 62) 32 (m.2.1 62 24)) 33 (m.2.1 62 25)) 34 (m.2.1 62 26)) 35 (m.2.1 62 27))) := fr_A hf15 62 _ rfl
          refine g_iincE (z := 4) (by decide) (n := 3) (lo' := [(0, vR 61), (1, vI 3), (2, vI 4)]) rfl rfl rfl ?_
          refine g_goto rfl ?_
          refine g_iload_n (n := 3) rfl rfl ?_
          refine g_bipush (by decide) rfl ?_
          refine g_icmp_ge (by decide) (by decide) (by decide) (by decide) rfl ?_ ?_
          · intro k21
            exfalso; omega
          · intro k22
            refine g_aload_n (n := 0) rfl rfl ?_
            refine g_getf (v := vR 62) rfl (kl_61 _) rfl ?_
            refine g_bipush (by decide) rfl ?_
            refine g_iload_n (n := 2) rfl rfl ?_
            refine g_imulE (z := 32) (by decide) rfl ?_
            refine g_iload_n (n := 3) rfl rfl ?_
            refine g_iaddE (z := 36) (by decide) rfl ?_
            refine g_aload_n (n := 0) rfl rfl ?_
            refine g_getf (v := vR 62) rfl (kl_61 _) rfl ?_
            refine g_bipush (by decide) rfl ?_
            refine g_iload_n (n := 1) rfl rfl ?_
            refine g_imulE (z := 24) (by decide) rfl ?_
            refine g_iload_n (n := 3) rfl rfl ?_
            refine g_iaddE (z := 28) (by decide) rfl ?_
            have h23 : (-2147483648) ≤ m.2.1 62 28 ∧ m.2.1 62 28 ≤ 2147483647 := hm.2 62 28 (by decide) (show (28 : Int) < 48 by decide)
            refine g_ialE (f := up (up (up (up (m.2.1 62) 32 (m.2.1 62 24)) 33 (m.2.1 62 25)) 34 (m.2.1 62 26)) 35 (m.2.1 62 27)) (v := m.2.1 62 28) rfl (kl_62 _) (by decide) (by decide) (by decide) rfl ?_
            refine g_iAst (f := up (up (up (up (m.2.1 62) 32 (m.2.1 62 24)) 33 (m.2.1 62 25)) 34 (m.2.1 62 26)) 35 (m.2.1 62 27)) (m' := (kA (kA (kA (kA (kA m 62 (up (m.2.1 62) 32 (m.2.1 62 24))) 62 (up (up (m.2.1 62) 32 (m.2.1 62 24)) 33 (m.2.1 62 25))) 62 (up (up (up (m.2.1 62) 32 (m.2.1 62 24)) 33 (m.2.1 62 25)) 34 (m.2.1 62 26))) 62 (up (up (up (up (m.2.1 62) 32 (m.2.1 62 24)) 33 (m.2.1 62 25)) 34 (m.2.1 62 26)) 35 (m.2.1 62 27))) 62 (up (up (up (up (up (m.2.1 62) 32 (m.2.1 62 24)) 33 (m.2.1 62 25)) 34 (m.2.1 62 26)) 35 (m.2.1 62 27)) 36 (m.2.1 62 28)))) rfl (kl_62 _) (by decide) (by omega) (by omega) (kA_62 _ _) ?_
            have hm24 : kI (kA (kA (kA (kA (kA m 62 (up (m.2.1 62) 32 (m.2.1 62 24))) 62 (up (up (m.2.1 62) 32 (m.2.1 62 24)) 33 (m.2.1 62 25))) 62 (up (up (up (m.2.1 62) 32 (m.2.1 62 24)) 33 (m.2.1 62 25)) 34 (m.2.1 62 26))) 62 (up (up (up (up (m.2.1 62) 32 (m.2.1 62 24)) 33 (m.2.1 62 25)) 34 (m.2.1 62 26)) 35 (m.2.1 62 27))) 62 (up (up (up (up (up (m.2.1 62) 32 (m.2.1 62 24)) 33 (m.2.1 62 25)) 34 (m.2.1 62 26)) 35 (m.2.1 62 27)) 36 (m.2.1 62 28))) := kI_U hm19 62 rfl (show ((-2147483648) : Int) ≤ m.2.1 62 28 by omega) (show m.2.1 62 28 ≤ (2147483647 : Int) by omega)
            have hf25 : fr [] [62] m (kA (kA (kA (kA (kA m 62 (up (m.2.1 62) 32 (m.2.1 62 24))) 62 (up (up (m.2.1 62) 32 (m.2.1 62 24)) 33 (m.2.1 62 25))) 62 (up (up (up (m.2.1 62) 32 (m.2.1 62 24)) 33 (m.2.1 62 25)) 34 (m.2.1 62 26))) 62 (up (up (up (up (m.2.1 62) 32 (m.2.1 62 24)) 33 (m.2.1 62 25)) 34 (m.2.1 62 26)) 35 (m.2.1 62 27))) 62 (up (up (up (up (up (m.2.1 62) 32 (m.2.1 62 24)) 33 (m.2.1 62 25)) 34 (m.2.1 62 26)) 35 (m.2.1 62 27)) 36 (m.2.1 62 28))) := fr_A hf20 62 _ rfl
            refine g_iincE (z := 5) (by decide) (n := 3) (lo' := [(0, vR 61), (1, vI 3), (2, vI 4)]) rfl rfl rfl ?_
            refine g_goto rfl ?_
            refine g_iload_n (n := 3) rfl rfl ?_
            refine g_bipush (by decide) rfl ?_
            refine g_icmp_ge (by decide) (by decide) (by decide) (by decide) rfl ?_ ?_
            · intro k26
              exfalso; omega
            · intro k27
              refine g_aload_n (n := 0) rfl rfl ?_
              refine g_getf (v := vR 62) rfl (kl_61 _) rfl ?_
              refine g_bipush (by decide) rfl ?_
              refine g_iload_n (n := 2) rfl rfl ?_
              refine g_imulE (z := 32) (by decide) rfl ?_
              refine g_iload_n (n := 3) rfl rfl ?_
              refine g_iaddE (z := 37) (by decide) rfl ?_
              refine g_aload_n (n := 0) rfl rfl ?_
              refine g_getf (v := vR 62) rfl (kl_61 _) rfl ?_
              refine g_bipush (by decide) rfl ?_
              refine g_iload_n (n := 1) rfl rfl ?_
              refine g_imulE (z := 24) (by decide) rfl ?_
              refine g_iload_n (n := 3) rfl rfl ?_
              refine g_iaddE (z := 29) (by decide) rfl ?_
              have h28 : (-2147483648) ≤ m.2.1 62 29 ∧ m.2.1 62 29 ≤ 2147483647 := hm.2 62 29 (by decide) (show (29 : Int) < 48 by decide)
              refine g_ialE (f := up (up (up (up (up (m.2.1 62) 32 (m.2.1 62 24)) 33 (m.2.1 62 25)) 34 (m.2.1 62 26)) 35 (m.2.1 62 27)) 36 (m.2.1 62 28)) (v := m.2.1 62 29) rfl (kl_62 _) (by decide) (by decide) (by decide) rfl ?_
              refine g_iAst (f := up (up (up (up (up (m.2.1 62) 32 (m.2.1 62 24)) 33 (m.2.1 62 25)) 34 (m.2.1 62 26)) 35 (m.2.1 62 27)) 36 (m.2.1 62 28)) (m' := (kA (kA (kA (kA (kA (kA m 62 (up (m.2.1 62) 32 (m.2.1 62 24))) 62 (up (up (m.2.1 62) 32 (m.2.1 62 24)) 33 (m.2.1 62 25))) 62 (up (up (up (m.2.1 62) 32 (m.2.1 62 24)) 33 (m.2.1 62 25)) 34 (m.2.1 62 26))) 62 (up (up (up (up (m.2.1 62) 32 (m.2.1 62 24)) 33 (m.2.1 62 25)) 34 (m.2.1 62 26)) 35 (m.2.1 62 27))) 62 (up (up (up (up (up (m.2.1 62) 32 (m.2.1 62 24)) 33 (m.2.1 62 25)) 34 (m.2.1 62 26)) 35 (m.2.1 62 27)) 36 (m.2.1 62 28))) 62 (up (up (up (up (up (up (m.2.1 62) 32 (m.2.1 62 24)) 33 (m.2.1 62 25)) 34 (m.2.1 62 26)) 35 (m.2.1 62 27)) 36 (m.2.1 62 28)) 37 (m.2.1 62 29)))) rfl (kl_62 _) (by decide) (by omega) (by omega) (kA_62 _ _) ?_
              have hm29 : kI (kA (kA (kA (kA (kA (kA m 62 (up (m.2.1 62) 32 (m.2.1 62 24))) 62 (up (up (m.2.1 62) 32 (m.2.1 62 24)) 33 (m.2.1 62 25))) 62 (up (up (up (m.2.1 62) 32 (m.2.1 62 24)) 33 (m.2.1 62 25)) 34 (m.2.1 62 26))) 62 (up (up (up (up (m.2.1 62) 32 (m.2.1 62 24)) 33 (m.2.1 62 25)) 34 (m.2.1 62 26)) 35 (m.2.1 62 27))) 62 (up (up (up (up (up (m.2.1 62) 32 (m.2.1 62 24)) 33 (m.2.1 62 25)) 34 (m.2.1 62 26)) 35 (m.2.1 62 27)) 36 (m.2.1 62 28))) 62 (up (up (up (up (up (up (m.2.1 62) 32 (m.2.1 62 24)) 33 (m.2.1 62 25)) 34 (m.2.1 62 26)) 35 (m.2.1 62 27)) 36 (m.2.1 62 28)) 37 (m.2.1 62 29))) := kI_U hm24 62 rfl (show ((-2147483648) : Int) ≤ m.2.1 62 29 by omega) (show m.2.1 62 29 ≤ (2147483647 : Int) by omega)
              have hf30 : fr [] [62] m (kA (kA (kA (kA (kA (kA m 62 (up (m.2.1 62) 32 (m.2.1 62 24))) 62 (up (up (m.2.1 62) 32 (m.2.1 62 24)) 33 (m.2.1 62 25))) 62 (up (up (up (m.2.1 62) 32 (m.2.1 62 24)) 33 (m.2.1 62 25)) 34 (m.2.1 62 26))) 62 (up (up (up (up (m.2.1 62) 32 (m.2.1 62 24)) 33 (m.2.1 62 25)) 34 (m.2.1 62 26)) 35 (m.2.1 62 27))) 62 (up (up (up (up (up (m.2.1 62) 32 (m.2.1 62 24)) 33 (m.2.1 62 25)) 34 (m.2.1 62 26)) 35 (m.2.1 62 27)) 36 (m.2.1 62 28))) 62 (up (up (up (up (up (up (m.2.1 62) 32 (m.2.1 62 24)) 33 (m.2.1 62 25)) 34 (m.2.1 62 26)) 35 (m.2.1 62 27)) 36 (m.2.1 62 28)) 37 (m.2.1 62 29))) := fr_A hf25 62 _ rfl
              refine g_iincE (z := 6) (by decide) (n := 3) (lo' := [(0, vR 61), (1, vI 3), (2, vI 4)]) rfl rfl rfl ?_
              refine g_goto rfl ?_
              refine g_iload_n (n := 3) rfl rfl ?_
              refine g_bipush (by decide) rfl ?_
              refine g_icmp_ge (by decide) (by decide) (by decide) (by decide) rfl ?_ ?_
              · intro k31
                exfalso; omega
              · intro k32
                refine g_aload_n (n := 0) rfl rfl ?_
                refine g_getf (v := vR 62) rfl (kl_61 _) rfl ?_
                refine g_bipush (by decide) rfl ?_
                refine g_iload_n (n := 2) rfl rfl ?_
                refine g_imulE (z := 32) (by decide) rfl ?_
                refine g_iload_n (n := 3) rfl rfl ?_
                refine g_iaddE (z := 38) (by decide) rfl ?_
                refine g_aload_n (n := 0) rfl rfl ?_
                refine g_getf (v := vR 62) rfl (kl_61 _) rfl ?_
                refine g_bipush (by decide) rfl ?_
                refine g_iload_n (n := 1) rfl rfl ?_
                refine g_imulE (z := 24) (by decide) rfl ?_
                refine g_iload_n (n := 3) rfl rfl ?_
                refine g_iaddE (z := 30) (by decide) rfl ?_
                have h33 : (-2147483648) ≤ m.2.1 62 30 ∧ m.2.1 62 30 ≤ 2147483647 := hm.2 62 30 (by decide) (show (30 : Int) < 48 by decide)
                refine g_ialE (f := up (up (up (up (up (up (m.2.1 62) 32 (m.2.1 62 24)) 33 (m.2.1 62 25)) 34 (m.2.1 62 26)) 35 (m.2.1 62 27)) 36 (m.2.1 62 28)) 37 (m.2.1 62 29)) (v := m.2.1 62 30) rfl (kl_62 _) (by decide) (by decide) (by decide) rfl ?_
                refine g_iAst (f := up (up (up (up (up (up (m.2.1 62) 32 (m.2.1 62 24)) 33 (m.2.1 62 25)) 34 (m.2.1 62 26)) 35 (m.2.1 62 27)) 36 (m.2.1 62 28)) 37 (m.2.1 62 29)) (m' := (kA (kA (kA (kA (kA (kA (kA m 62 (up (m.2.1 62) 32 (m.2.1 62 24))) 62 (up (up (m.2.1 62) 32 (m.2.1 62 24)) 33 (m.2.1 62 25))) 62 (up (up (up (m.2.1 62) 32 (m.2.1 62 24)) 33 (m.2.1 62 25)) 34 (m.2.1 62 26))) 62 (up (up (up (up (m.2.1 62) 32 (m.2.1 62 24)) 33 (m.2.1 62 25)) 34 (m.2.1 62 26)) 35 (m.2.1 62 27))) 62 (up (up (up (up (up (m.2.1 62) 32 (m.2.1 62 24)) 33 (m.2.1 62 25)) 34 (m.2.1 62 26)) 35 (m.2.1 62 27)) 36 (m.2.1 62 28))) 62 (up (up (up (up (up (up (m.2.1 62) 32 (m.2.1 62 24)) 33 (m.2.1 62 25)) 34 (m.2.1 62 26)) 35 (m.2.1 62 27)) 36 (m.2.1 62 28)) 37 (m.2.1 62 29))) 62 (up (up (up (up (up (up (up (m.2.1 62) 32 (m.2.1 62 24)) 33 (m.2.1 62 25)) 34 (m.2.1 62 26)) 35 (m.2.1 62 27)) 36 (m.2.1 62 28)) 37 (m.2.1 62 29)) 38 (m.2.1 62 30)))) rfl (kl_62 _) (by decide) (by omega) (by omega) (kA_62 _ _) ?_
                have hm34 : kI (kA (kA (kA (kA (kA (kA (kA m 62 (up (m.2.1 62) 32 (m.2.1 62 24))) 62 (up (up (m.2.1 62) 32 (m.2.1 62 24)) 33 (m.2.1 62 25))) 62 (up (up (up (m.2.1 62) 32 (m.2.1 62 24)) 33 (m.2.1 62 25)) 34 (m.2.1 62 26))) 62 (up (up (up (up (m.2.1 62) 32 (m.2.1 62 24)) 33 (m.2.1 62 25)) 34 (m.2.1 62 26)) 35 (m.2.1 62 27))) 62 (up (up (up (up (up (m.2.1 62) 32 (m.2.1 62 24)) 33 (m.2.1 62 25)) 34 (m.2.1 62 26)) 35 (m.2.1 62 27)) 36 (m.2.1 62 28))) 62 (up (up (up (up (up (up (m.2.1 62) 32 (m.2.1 62 24)) 33 (m.2.1 62 25)) 34 (m.2.1 62 26)) 35 (m.2.1 62 27)) 36 (m.2.1 62 28)) 37 (m.2.1 62 29))) 62 (up (up (up (up (up (up (up (m.2.1 62) 32 (m.2.1 62 24)) 33 (m.2.1 62 25)) 34 (m.2.1 62 26)) 35 (m.2.1 62 27)) 36 (m.2.1 62 28)) 37 (m.2.1 62 29)) 38 (m.2.1 62 30))) := kI_U hm29 62 rfl (show ((-2147483648) : Int) ≤ m.2.1 62 30 by omega) (show m.2.1 62 30 ≤ (2147483647 : Int) by omega)
                have hf35 : fr [] [62] m (kA (kA (kA (kA (kA (kA (kA m 62 (up (m.2.1 62) 32 (m.2.1 62 24))) 62 (up (up (m.2.1 62) 32 (m.2.1 62 24)) 33 (m.2.1 62 25))) 62 (up (up (up (m.2.1 62) 32 (m.2.1 62 24)) 33 (m.2.1 62 25)) 34 (m.2.1 62 26))) 62 (up (up (up (up (m.2.1 62) 32 (m.2.1 62 24)) 33 (m.2.1 62 25)) 34 (m.2.1 62 26)) 35 (m.2.1 62 27))) 62 (up (up (up (up (up (m.2.1 62) 32 (m.2.1 62 24)) 33 (m.2.1 62 25)) 34 (m.2.1 62 26)) 35 (m.2.1 62 27)) 36 (m.2.1 62 28))) 62 (up (up (up (up (up (up (m.2.1 62) 32 (m.2.1 62 24)) 33 (m.2.1 62 25)) 34 (m.2.1 62 26)) 35 (m.2.1 62 27)) 36 (m.2.1 62 28)) 37 (m.2.1 62 29))) 62 (up (up (up (up (up (up (up (m.2.1 62) 32 (m.2.1 62 24)) 33 (m.2.1 62 25)) 34 (m.2.1 62 26)) 35 (m.2.1 62 27)) 36 (m.2.1 62 28)) 37 (m.2.1 62 29)) 38 (m.2.1 62 30))) := fr_A hf30 62 _ rfl
                refine g_iincE (z := 7) (by decide) (n := 3) (lo' := [(0, vR 61), (1, vI 3), (2, vI 4)]) rfl rfl rfl ?_
                refine g_goto rfl ?_
                refine g_iload_n (n := 3) rfl rfl ?_
                refine g_bipush (by decide) rfl ?_
                refine g_icmp_ge (by decide) (by decide) (by decide) (by decide) rfl ?_ ?_
                · intro k36
                  exfalso; omega
                · intro k37
                  refine g_aload_n (n := 0) rfl rfl ?_
                  refine g_getf (v := vR 62) rfl (kl_61 _) rfl ?_
                  refine g_bipush (by decide) rfl ?_
                  refine g_iload_n (n := 2) rfl rfl ?_
                  refine g_imulE (z := 32) (by decide) rfl ?_
                  refine g_iload_n (n := 3) rfl rfl ?_
                  refine g_iaddE (z := 39) (by decide) rfl ?_
                  refine g_aload_n (n := 0) rfl rfl ?_
                  refine g_getf (v := vR 62) rfl (kl_61 _) rfl ?_
                  refine g_bipush (by decide) rfl ?_
                  refine g_iload_n (n := 1) rfl rfl ?_
                  refine g_imulE (z := 24) (by decide) rfl ?_
                  refine g_iload_n (n := 3) rfl rfl ?_
                  refine g_iaddE (z := 31) (by decide) rfl ?_
                  have h38 : (-2147483648) ≤ m.2.1 62 31 ∧ m.2.1 62 31 ≤ 2147483647 := hm.2 62 31 (by decide) (show (31 : Int) < 48 by decide)
                  refine g_ialE (f := up (up (up (up (up (up (up (m.2.1 62) 32 (m.2.1 62 24)) 33 (m.2.1 62 25)) 34 (m.2.1 62 26)) 35 (m.2.1 62 27)) 36 (m.2.1 62 28)) 37 (m.2.1 62 29)) 38 (m.2.1 62 30)) (v := m.2.1 62 31) rfl (kl_62 _) (by decide) (by decide) (by decide) rfl ?_
                  refine g_iAst (f := up (up (up (up (up (up (up (m.2.1 62) 32 (m.2.1 62 24)) 33 (m.2.1 62 25)) 34 (m.2.1 62 26)) 35 (m.2.1 62 27)) 36 (m.2.1 62 28)) 37 (m.2.1 62 29)) 38 (m.2.1 62 30)) (m' := (kA (kA (kA (kA (kA (kA (kA (kA m 62 (up (m.2.1 62) 32 (m.2.1 62 24))) 62 (up (up (m.2.1 62) 32 (m.2.1 62 24)) 33 (m.2.1 62 25))) 62 (up (up (up (m.2.1 62) 32 (m.2.1 62 24)) 33 (m.2.1 62 25)) 34 (m.2.1 62 26))) 62 (up (up (up (up (m.2.1 62) 32 (m.2.1 62 24)) 33 (m.2.1 62 25)) 34 (m.2.1 62 26)) 35 (m.2.1 62 27))) 62 (up (up (up (up (up (m.2.1 62) 32 (m.2.1 62 24)) 33 (m.2.1 62 25)) 34 (m.2.1 62 26)) 35 (m.2.1 62 27)) 36 (m.2.1 62 28))) 62 (up (up (up (up (up (up (m.2.1 62) 32 (m.2.1 62 24)) 33 (m.2.1 62 25)) 34 (m.2.1 62 26)) 35 (m.2.1 62 27)) 36 (m.2.1 62 28)) 37 (m.2.1 62 29))) 62 (up (up (up (up (up (up (up (m.2.1 62) 32 (m.2.1 62 24)) 33 (m.2.1 62 25)) 34 (m.2.1 62 26)) 35 (m.2.1 62 27)) 36 (m.2.1 62 28)) 37 (m.2.1 62 29)) 38 (m.2.1 62 30))) 62 (up (up (up (up (up (up (up (up (m.2.1 62) 32 (m.2.1 62 24)) 33 (m.2.1 62 25)) 34 (m.2.1 62 26)) 35 (m.2.1 62 27)) 36 (m.2.1 62 28)) 37 (m.2.1 62 29)) 38 (m.2.1 62 30)) 39 (m.2.1 62 31)))) rfl (kl_62 _) (by decide) (by omega) (by omega) (kA_62 _ _) ?_
                  have hm39 : kI (kA (kA (kA (kA (kA (kA (kA (kA m 62 (up (m.2.1 62) 32 (m.2.1 62 24))) 62 (up (up (m.2.1 62) 32 (m.2.1 62 24)) 33 (m.2.1 62 25))) 62 (up (up (up (m.2.1 62) 32 (m.2.1 62 24)) 33 (m.2.1 62 25)) 34 (m.2.1 62 26))) 62 (up (up (up (up (m.2.1 62) 32 (m.2.1 62 24)) 33 (m.2.1 62 25)) 34 (m.2.1 62 26)) 35 (m.2.1 62 27))) 62 (up (up (up (up (up (m.2.1 62) 32 (m.2.1 62 24)) 33 (m.2.1 62 25)) 34 (m.2.1 62 26)) 35 (m.2.1 62 27)) 36 (m.2.1 62 28))) 62 (up (up (up (up (up (up (m.2.1 62) 32 (m.2.1 62 24)) 33 (m.2.1 62 25)) 34 (m.2.1 62 26)) 35 (m.2.1 62 27)) 36 (m.2.1 62 28)) 37 (m.2.1 62 29))) 62 (up (up (up (up (up (up (up (m.2.1 62) 32 (m.2.1 62 24)) 33 (m.2.1 62 25)) 34 (m.2.1 62 26)) 35 (m.2.1 62 27)) 36 (m.2.1 62 28)) 37 (m.2.1 62 29)) 38 (m.2.1 62 30))) 62 (up (up (up (up (up (up (up (up (m.2.1 62) 32 (m.2.1 62 24)) 33 (m.2.1 62 25)) 34 (m.2.1 62 26)) 35 (m.2.1 62 27)) 36 (m.2.1 62 28)) 37 (m.2.1 62 29)) 38 (m.2.1 62 30)) 39 (m.2.1 62 31))) := kI_U hm34 62 rfl (show ((-2147483648) : Int) ≤ m.2.1 62 31 by omega) (show m.2.1 62 31 ≤ (2147483647 : Int) by omega)
                  have hf40 : fr [] [62] m (kA (kA (kA (kA (kA (kA (kA (kA m 62 (up (m.2.1 62) 32 (m.2.1 62 24))) 62 (up (up (m.2.1 62) 32 (m.2.1 62 24)) 33 (m.2.1 62 25))) 62 (up (up (up (m.2.1 62) 32 (m.2.1 62 24)) 33 (m.2.1 62 25)) 34 (m.2.1 62 26))) 62 (up (up (up (up (m.2.1 62) 32 (m.2.1 62 24)) 33 (m.2.1 62 25)) 34 (m.2.1 62 26)) 35 (m.2.1 62 27))) 62 (up (up (up (up (up (m.2.1 62) 32 (m.2.1 62 24)) 33 (m.2.1 62 25)) 34 (m.2.1 62 26)) 35 (m.2.1 62 27)) 36 (m.2.1 62 28))) 62 (up (up (up (up (up (up (m.2.1 62) 32 (m.2.1 62 24)) 33 (m.2.1 62 25)) 34 (m.2.1 62 26)) 35 (m.2.1 62 27)) 36 (m.2.1 62 28)) 37 (m.2.1 62 29))) 62 (up (up (up (up (up (up (up (m.2.1 62) 32 (m.2.1 62 24)) 33 (m.2.1 62 25)) 34 (m.2.1 62 26)) 35 (m.2.1 62 27)) 36 (m.2.1 62 28)) 37 (m.2.1 62 29)) 38 (m.2.1 62 30))) 62 (up (up (up (up (up (up (up (up (m.2.1 62) 32 (m.2.1 62 24)) 33 (m.2.1 62 25)) 34 (m.2.1 62 26)) 35 (m.2.1 62 27)) 36 (m.2.1 62 28)) 37 (m.2.1 62 29)) 38 (m.2.1 62 30)) 39 (m.2.1 62 31))) := fr_A hf35 62 _ rfl
                  refine g_iincE (z := 8) (by decide) (n := 3) (lo' := [(0, vR 61), (1, vI 3), (2, vI 4)]) rfl rfl rfl ?_
                  refine g_goto rfl ?_
                  refine g_iload_n (n := 3) rfl rfl ?_
                  refine g_bipush (by decide) rfl ?_
                  refine g_icmp_ge (by decide) (by decide) (by decide) (by decide) rfl ?_ ?_
                  · intro k41
                    refine g_vret rfl rfl ?_
                    exact ⟨_, rfl, hm39, hf40, rfl, fun j hj => by show (up (up (up (up (up (up (up (up (m.2.1 62) 32 (m.2.1 62 24)) 33 (m.2.1 62 25)) 34 (m.2.1 62 26)) 35 (m.2.1 62 27)) 36 (m.2.1 62 28)) 37 (m.2.1 62 29)) 38 (m.2.1 62 30)) 39 (m.2.1 62 31)) j = m.2.1 62 j; rw [up_ne _ (by omega), up_ne _ (by omega), up_ne _ (by omega), up_ne _ (by omega), up_ne _ (by omega), up_ne _ (by omega), up_ne _ (by omega), up_ne _ (by omega)]⟩
                  · intro k42
                    exfalso; omega
theorem d_copy_0_1 {V : cg_V} {d q : Nat} (hd : 0 ≤ d) (hq : 0 ≤ q) {m : kM} (hm : kI m) : cg_S V d q mX10_copy [vR 61, vI 0, vI 1] (kl m) (R_V (fun m' => (kI m') ∧ (fr [] [62] m m') ∧ (kr1 (m'.2.1 62) = kr0 (m.2.1 62)) ∧ (∀ j : Int, (j < 8 ∨ 16 ≤ j) → m'.2.1 62 j = m.2.1 62 j))) := by
  have hf0 : fr [] [62] m m := fr_rf m
  refine cg_of (List.mem_of_getElem? (show ae_MT[145]? = some mX10_copy from rfl)) (Nat.le_of_ble_eq_true rfl) ?_
  show cg_G V mX10_copy d q _ 0 [(0, vR 61), (1, vI 0), (2, vI 1)] [] (kl m) 0 0
  refine g_iconst rfl ?_
  refine g_istore_n (n := 3) (lo' := [(0, vR 61), (1, vI 0), (2, vI 1)]) rfl rfl ?_
  refine g_iload_n (n := 3) rfl rfl ?_
  refine g_bipush (by decide) rfl ?_
  refine g_icmp_ge (by decide) (by decide) (by decide) (by decide) rfl ?_ ?_
  · intro k1
    exfalso; omega
  · intro k2
    refine g_aload_n (n := 0) rfl rfl ?_
    refine g_getf (v := vR 62) rfl (kl_61 _) rfl ?_
    refine g_bipush (by decide) rfl ?_
    refine g_iload_n (n := 2) rfl rfl ?_
    refine g_imulE (z := 8) (by decide) rfl ?_
    refine g_iload_n (n := 3) rfl rfl ?_
    refine g_iaddE (z := 8) (by decide) rfl ?_
    refine g_aload_n (n := 0) rfl rfl ?_
    refine g_getf (v := vR 62) rfl (kl_61 _) rfl ?_
    refine g_bipush (by decide) rfl ?_
    refine g_iload_n (n := 1) rfl rfl ?_
    refine g_imulE (z := 0) (by decide) rfl ?_
    refine g_iload_n (n := 3) rfl rfl ?_
    refine g_iaddE (z := 0) (by decide) rfl ?_
    have h3 : (-2147483648) ≤ m.2.1 62 0 ∧ m.2.1 62 0 ≤ 2147483647 := hm.2 62 0 (by decide) (show (0 : Int) < 48 by decide)
    refine g_ialE (f := m.2.1 62) (v := m.2.1 62 0) rfl (kl_62 _) (by decide) (by decide) (by decide) rfl ?_
    refine g_iAst (f := m.2.1 62) (m' := (kA m 62 (up (m.2.1 62) 8 (m.2.1 62 0)))) rfl (kl_62 _) (by decide) (by omega) (by omega) (kA_62 _ _) ?_
    have hm4 : kI (kA m 62 (up (m.2.1 62) 8 (m.2.1 62 0))) := kI_U hm 62 rfl (show ((-2147483648) : Int) ≤ m.2.1 62 0 by omega) (show m.2.1 62 0 ≤ (2147483647 : Int) by omega)
    have hf5 : fr [] [62] m (kA m 62 (up (m.2.1 62) 8 (m.2.1 62 0))) := fr_A hf0 62 _ rfl
    refine g_iincE (z := 1) (by decide) (n := 3) (lo' := [(0, vR 61), (1, vI 0), (2, vI 1)]) rfl rfl rfl ?_
    refine g_goto rfl ?_
    refine g_iload_n (n := 3) rfl rfl ?_
    refine g_bipush (by decide) rfl ?_
    refine g_icmp_ge (by decide) (by decide) (by decide) (by decide) rfl ?_ ?_
    · intro k6
      exfalso; omega
    · intro k7
      refine g_aload_n (n := 0) rfl rfl ?_
      refine g_getf (v := vR 62) rfl (kl_61 _) rfl ?_
      refine g_bipush (by decide) rfl ?_
      refine g_iload_n (n := 2) rfl rfl ?_
      refine g_imulE (z := 8) (by decide) rfl ?_
      refine g_iload_n (n := 3) rfl rfl ?_
      refine g_iaddE (z := 9) (by decide) rfl ?_
      refine g_aload_n (n := 0) rfl rfl ?_
      refine g_getf (v := vR 62) rfl (kl_61 _) rfl ?_
      refine g_bipush (by decide) rfl ?_
      refine g_iload_n (n := 1) rfl rfl ?_
      refine g_imulE (z := 0) (by decide) rfl ?_
      refine g_iload_n (n := 3) rfl rfl ?_
      refine g_iaddE (z := 1) (by decide) rfl ?_
      have h8 : (-2147483648) ≤ m.2.1 62 1 ∧ m.2.1 62 1 ≤ 2147483647 := hm.2 62 1 (by decide) (show (1 : Int) < 48 by decide)
      refine g_ialE (f := up (m.2.1 62) 8 (m.2.1 62 0)) (v := m.2.1 62 1) rfl (kl_62 _) (by decide) (by decide) (by decide) rfl ?_
      refine g_iAst (f := up (m.2.1 62) 8 (m.2.1 62 0)) (m' := (kA (kA m 62 (up (m.2.1 62) 8 (m.2.1 62 0))) 62 (up (up (m.2.1 62) 8 (m.2.1 62 0)) 9 (m.2.1 62 1)))) rfl (kl_62 _) (by decide) (by omega) (by omega) (kA_62 _ _) ?_
      have hm9 : kI (kA (kA m 62 (up (m.2.1 62) 8 (m.2.1 62 0))) 62 (up (up (m.2.1 62) 8 (m.2.1 62 0)) 9 (m.2.1 62 1))) := kI_U hm4 62 rfl (show ((-2147483648) : Int) ≤ m.2.1 62 1 by omega) (show m.2.1 62 1 ≤ (2147483647 : Int) by omega)
      have hf10 : fr [] [62] m (kA (kA m 62 (up (m.2.1 62) 8 (m.2.1 62 0))) 62 (up (up (m.2.1 62) 8 (m.2.1 62 0)) 9 (m.2.1 62 1))) := fr_A hf5 62 _ rfl
      refine g_iincE (z := 2) (by decide) (n := 3) (lo' := [(0, vR 61), (1, vI 0), (2, vI 1)]) rfl rfl rfl ?_
      refine g_goto rfl ?_
      refine g_iload_n (n := 3) rfl rfl ?_
      refine g_bipush (by decide) rfl ?_
      refine g_icmp_ge (by decide) (by decide) (by decide) (by decide) rfl ?_ ?_
      · intro k11
        exfalso; omega
      · intro k12
        refine g_aload_n (n := 0) rfl rfl ?_
        refine g_getf (v := vR 62) rfl (kl_61 _) rfl ?_
        refine g_bipush (by decide) rfl ?_
        refine g_iload_n (n := 2) rfl rfl ?_
        refine g_imulE (z := 8) (by decide) rfl ?_
        refine g_iload_n (n := 3) rfl rfl ?_
        refine g_iaddE (z := 10) (by decide) rfl ?_
        refine g_aload_n (n := 0) rfl rfl ?_
        refine g_getf (v := vR 62) rfl (kl_61 _) rfl ?_
        refine g_bipush (by decide) rfl ?_
        refine g_iload_n (n := 1) rfl rfl ?_
        refine g_imulE (z := 0) (by decide) rfl ?_
        refine g_iload_n (n := 3) rfl rfl ?_
        refine g_iaddE (z := 2) (by decide) rfl ?_
        have h13 : (-2147483648) ≤ m.2.1 62 2 ∧ m.2.1 62 2 ≤ 2147483647 := hm.2 62 2 (by decide) (show (2 : Int) < 48 by decide)
        refine g_ialE (f := up (up (m.2.1 62) 8 (m.2.1 62 0)) 9 (m.2.1 62 1)) (v := m.2.1 62 2) rfl (kl_62 _) (by decide) (by decide) (by decide) rfl ?_
        refine g_iAst (f := up (up (m.2.1 62) 8 (m.2.1 62 0)) 9 (m.2.1 62 1)) (m' := (kA (kA (kA m 62 (up (m.2.1 62) 8 (m.2.1 62 0))) 62 (up (up (m.2.1 62) 8 (m.2.1 62 0)) 9 (m.2.1 62 1))) 62 (up (up (up (m.2.1 62) 8 (m.2.1 62 0)) 9 (m.2.1 62 1)) 10 (m.2.1 62 2)))) rfl (kl_62 _) (by decide) (by omega) (by omega) (kA_62 _ _) ?_
        have hm14 : kI (kA (kA (kA m 62 (up (m.2.1 62) 8 (m.2.1 62 0))) 62 (up (up (m.2.1 62) 8 (m.2.1 62 0)) 9 (m.2.1 62 1))) 62 (up (up (up (m.2.1 62) 8 (m.2.1 62 0)) 9 (m.2.1 62 1)) 10 (m.2.1 62 2))) := kI_U hm9 62 rfl (show ((-2147483648) : Int) ≤ m.2.1 62 2 by omega) (show m.2.1 62 2 ≤ (2147483647 : Int) by omega)
        have hf15 : fr [] [62] m (kA (kA (kA m 62 (up (m.2.1 62) 8 (m.2.1 62 0))) 62 (up (up (m.2.1 62) 8 (m.2.1 62 0)) 9 (m.2.1 62 1))) 62 (up (up (up (m.2.1 62) 8 (m.2.1 62 0)) 9 (m.2.1 62 1)) 10 (m.2.1 62 2))) := fr_A hf10 62 _ rfl
        refine g_iincE (z := 3) (by decide) (n := 3) (lo' := [(0, vR 61), (1, vI 0), (2, vI 1)]) rfl rfl rfl ?_
        refine g_goto rfl ?_
        refine g_iload_n (n := 3) rfl rfl ?_
        refine g_bipush (by decide) rfl ?_
        refine g_icmp_ge (by decide) (by decide) (by decide) (by decide) rfl ?_ ?_
        · intro k16
          exfalso; omega
        · intro k17
          refine g_aload_n (n := 0) rfl rfl ?_
          refine g_getf (v := vR 62) rfl (kl_61 _) rfl ?_
          refine g_bipush (by decide) rfl ?_
          refine g_iload_n (n := 2) rfl rfl ?_
          refine g_imulE (z := 8) (by decide) rfl ?_
          refine g_iload_n (n := 3) rfl rfl ?_
          refine g_iaddE (z := 11) (by decide) rfl ?_
          refine g_aload_n (n := 0) rfl rfl ?_
          refine g_getf (v := vR 62) rfl (kl_61 _) rfl ?_
          refine g_bipush (by decide) rfl ?_
          refine g_iload_n (n := 1) rfl rfl ?_
          refine g_imulE (z := 0) (by decide) rfl ?_
          refine g_iload_n (n := 3) rfl rfl ?_
          refine g_iaddE (z := 3) (by decide) rfl ?_
          have h18 : (-2147483648) ≤ m.2.1 62 3 ∧ m.2.1 62 3 ≤ 2147483647 := hm.2 62 3 (by decide) (show (3 : Int) < 48 by decide)
          refine g_ialE (f := up (up (up (m.2.1 62) 8 (m.2.1 62 0)) 9 (m.2.1 62 1)) 10 (m.2.1 62 2)) (v := m.2.1 62 3) rfl (kl_62 _) (by decide) (by decide) (by decide) rfl ?_
          refine g_iAst (f := up (up (up (m.2.1 62) 8 (m.2.1 62 0)) 9 (m.2.1 62 1)) 10 (m.2.1 62 2)) (m' := (kA (kA (kA (kA m 62 (up (m.2.1 62) 8 (m.2.1 62 0))) 62 (up (up (m.2.1 62) 8 (m.2.1 62 0)) 9 (m.2.1 62 1))) 62 (up (up (up (m.2.1 62) 8 (m.2.1 62 0)) 9 (m.2.1 62 1)) 10 (m.2.1 62 2))) 62 (up (up (up (up (m.2.1 62) 8 (m.2.1 62 0)) 9 (m.2.1 62 1)) 10 (m.2.1 62 2)) 11 (m.2.1 62 3)))) rfl (kl_62 _) (by decide) (by omega) (by omega) (kA_62 _ _) ?_
          have hm19 : kI (kA (kA (kA (kA m 62 (up (m.2.1 62) 8 (m.2.1 62 0))) 62 (up (up (m.2.1 62) 8 (m.2.1 62 0)) 9 (m.2.1 62 1))) 62 (up (up (up (m.2.1 62) 8 (m.2.1 62 0)) 9 (m.2.1 62 1)) 10 (m.2.1 62 2))) 62 (up (up (up (up (m.2.1 62) 8 (m.2.1 62 0)) 9 (m.2.1 62 1)) 10 (m.2.1 62 2)) 11 (m.2.1 62 3))) := kI_U hm14 62 rfl (show ((-2147483648) : Int) ≤ m.2.1 62 3 by omega) (show m.2.1 62 3 ≤ (2147483647 : Int) by omega)
          have hf20 : fr [] [62] m (kA (kA (kA (kA m 62 (up (m.2.1 62) 8 (m.2.1 62 0))) 62 (up (up (m.2.1 62) 8 (m.2.1 62 0)) 9 (m.2.1 62 1))) 62 (up (up (up (m.2.1 62) 8 (m.2.1 62 0)) 9 (m.2.1 62 1)) 10 (m.2.1 62 2))) 62 (up (up (up (up (m.2.1 62) 8 (m.2.1 62 0)) 9 (m.2.1 62 1)) 10 (m.2.1 62 2)) 11 (m.2.1 62 3))) := fr_A hf15 62 _ rfl
          refine g_iincE (z := 4) (by decide) (n := 3) (lo' := [(0, vR 61), (1, vI 0), (2, vI 1)]) rfl rfl rfl ?_
          refine g_goto rfl ?_
          refine g_iload_n (n := 3) rfl rfl ?_
          refine g_bipush (by decide) rfl ?_
          refine g_icmp_ge (by decide) (by decide) (by decide) (by decide) rfl ?_ ?_
          · intro k21
            exfalso; omega
          · intro k22
            refine g_aload_n (n := 0) rfl rfl ?_
            refine g_getf (v := vR 62) rfl (kl_61 _) rfl ?_
            refine g_bipush (by decide) rfl ?_
            refine g_iload_n (n := 2) rfl rfl ?_
            refine g_imulE (z := 8) (by decide) rfl ?_
            refine g_iload_n (n := 3) rfl rfl ?_
            refine g_iaddE (z := 12) (by decide) rfl ?_
            refine g_aload_n (n := 0) rfl rfl ?_
            refine g_getf (v := vR 62) rfl (kl_61 _) rfl ?_
            refine g_bipush (by decide) rfl ?_
            refine g_iload_n (n := 1) rfl rfl ?_
            refine g_imulE (z := 0) (by decide) rfl ?_
            refine g_iload_n (n := 3) rfl rfl ?_
            refine g_iaddE (z := 4) (by decide) rfl ?_
            have h23 : (-2147483648) ≤ m.2.1 62 4 ∧ m.2.1 62 4 ≤ 2147483647 := hm.2 62 4 (by decide) (show (4 : Int) < 48 by decide)
            refine g_ialE (f := up (up (up (up (m.2.1 62) 8 (m.2.1 62 0)) 9 (m.2.1 62 1)) 10 (m.2.1 62 2)) 11 (m.2.1 62 3)) (v := m.2.1 62 4) rfl (kl_62 _) (by decide) (by decide) (by decide) rfl ?_
            refine g_iAst (f := up (up (up (up (m.2.1 62) 8 (m.2.1 62 0)) 9 (m.2.1 62 1)) 10 (m.2.1 62 2)) 11 (m.2.1 62 3)) (m' := (kA (kA (kA (kA (kA m 62 (up (m.2.1 62) 8 (m.2.1 62 0))) 62 (up (up (m.2.1 62) 8 (m.2.1 62 0)) 9 (m.2.1 62 1))) 62 (up (up (up (m.2.1 62) 8 (m.2.1 62 0)) 9 (m.2.1 62 1)) 10 (m.2.1 62 2))) 62 (up (up (up (up (m.2.1 62) 8 (m.2.1 62 0)) 9 (m.2.1 62 1)) 10 (m.2.1 62 2)) 11 (m.2.1 62 3))) 62 (up (up (up (up (up (m.2.1 62) 8 (m.2.1 62 0)) 9 (m.2.1 62 1)) 10 (m.2.1 62 2)) 11 (m.2.1 62 3)) 12 (m.2.1 62 4)))) rfl (kl_62 _) (by decide) (by omega) (by omega) (kA_62 _ _) ?_
            have hm24 : kI (kA (kA (kA (kA (kA m 62 (up (m.2.1 62) 8 (m.2.1 62 0))) 62 (up (up (m.2.1 62) 8 (m.2.1 62 0)) 9 (m.2.1 62 1))) 62 (up (up (up (m.2.1 62) 8 (m.2.1 62 0)) 9 (m.2.1 62 1)) 10 (m.2.1 62 2))) 62 (up (up (up (up (m.2.1 62) 8 (m.2.1 62 0)) 9 (m.2.1 62 1)) 10 (m.2.1 62 2)) 11 (m.2.1 62 3))) 62 (up (up (up (up (up (m.2.1 62) 8 (m.2.1 62 0)) 9 (m.2.1 62 1)) 10 (m.2.1 62 2)) 11 (m.2.1 62 3)) 12 (m.2.1 62 4))) := kI_U hm19 62 rfl (show ((-2147483648) : Int) ≤ m.2.1 62 4 by omega) (show m.2.1 62 4 ≤ (2147483647 : Int) by omega)
            have hf25 : fr [] [62] m (kA (kA (kA (kA (kA m 62 (up (m.2.1 62) 8 (m.2.1 62 0))) 62 (up (up (m.2.1 62) 8 (m.2.1 62 0)) 9 (m.2.1 62 1))) 62 (up (up (up (m.2.1 62) 8 (m.2.1 62 0)) 9 (m.2.1 62 1)) 10 (m.2.1 62 2))) 62 (up (up (up (up (m.2.1 62) 8 (m.2.1 62 0)) 9 (m.2.1 62 1)) 10 (m.2.1 62 2)) 11 (m.2.1 62 3))) 62 (up (up (up (up (up (m.2.1 62) 8 (m.2.1 62 0)) 9 (m.2.1 62 1)) 10 (m.2.1 62 2)) 11 (m.2.1 62 3)) 12 (m.2.1 62 4))) := fr_A hf20 62 _ rfl
            refine g_iincE (z := 5) (by decide) (n := 3) (lo' := [(0, vR 61), (1, vI 0), (2, vI 1)]) rfl rfl rfl ?_
            refine g_goto rfl ?_
            refine g_iload_n (n := 3) rfl rfl ?_
            refine g_bipush (by decide) rfl ?_
            refine g_icmp_ge (by decide) (by decide) (by decide) (by decide) rfl ?_ ?_
            · intro k26
              exfalso; omega
            · intro k27
              refine g_aload_n (n := 0) rfl rfl ?_
              refine g_getf (v := vR 62) rfl (kl_61 _) rfl ?_
              refine g_bipush (by decide) rfl ?_
              refine g_iload_n (n := 2) rfl rfl ?_
              refine g_imulE (z := 8) (by decide) rfl ?_
              refine g_iload_n (n := 3) rfl rfl ?_
              refine g_iaddE (z := 13) (by decide) rfl ?_
              refine g_aload_n (n := 0) rfl rfl ?_
              refine g_getf (v := vR 62) rfl (kl_61 _) rfl ?_
              refine g_bipush (by decide) rfl ?_
              refine g_iload_n (n := 1) rfl rfl ?_
              refine g_imulE (z := 0) (by decide) rfl ?_
              refine g_iload_n (n := 3) rfl rfl ?_
              refine g_iaddE (z := 5) (by decide) rfl ?_
              have h28 : (-2147483648) ≤ m.2.1 62 5 ∧ m.2.1 62 5 ≤ 2147483647 := hm.2 62 5 (by decide) (show (5 : Int) < 48 by decide)
              refine g_ialE (f := up (up (up (up (up (m.2.1 62) 8 (m.2.1 62 0)) 9 (m.2.1 62 1)) 10 (m.2.1 62 2)) 11 (m.2.1 62 3)) 12 (m.2.1 62 4)) (v := m.2.1 62 5) rfl (kl_62 _) (by decide) (by decide) (by decide) rfl ?_
              refine g_iAst (f := up (up (up (up (up (m.2.1 62) 8 (m.2.1 62 0)) 9 (m.2.1 62 1)) 10 (m.2.1 62 2)) 11 (m.2.1 62 3)) 12 (m.2.1 62 4)) (m' := (kA (kA (kA (kA (kA (kA m 62 (up (m.2.1 62) 8 (m.2.1 62 0))) 62 (up (up (m.2.1 62) 8 (m.2.1 62 0)) 9 (m.2.1 62 1))) 62 (up (up (up (m.2.1 62) 8 (m.2.1 62 0)) 9 (m.2.1 62 1)) 10 (m.2.1 62 2))) 62 (up (up (up (up (m.2.1 62) 8 (m.2.1 62 0)) 9 (m.2.1 62 1)) 10 (m.2.1 62 2)) 11 (m.2.1 62 3))) 62 (up (up (up (up (up (m.2.1 62) 8 (m.2.1 62 0)) 9 (m.2.1 62 1)) 10 (m.2.1 62 2)) 11 (m.2.1 62 3)) 12 (m.2.1 62 4))) 62 (up (up (up (up (up (up (m.2.1 62) 8 (m.2.1 62 0)) 9 (m.2.1 62 1)) 10 (m.2.1 62 2)) 11 (m.2.1 62 3)) 12 (m.2.1 62 4)) 13 (m.2.1 62 5)))) rfl (kl_62 _) (by decide) (by omega) (by omega) (kA_62 _ _) ?_
              have hm29 : kI (kA (kA (kA (kA (kA (kA m 62 (up (m.2.1 62) 8 (m.2.1 62 0))) 62 (up (up (m.2.1 62) 8 (m.2.1 62 0)) 9 (m.2.1 62 1))) 62 (up (up (up (m.2.1 62) 8 (m.2.1 62 0)) 9 (m.2.1 62 1)) 10 (m.2.1 62 2))) 62 (up (up (up (up (m.2.1 62) 8 (m.2.1 62 0)) 9 (m.2.1 62 1)) 10 (m.2.1 62 2)) 11 (m.2.1 62 3))) 62 (up (up (up (up (up (m.2.1 62) 8 (m.2.1 62 0)) 9 (m.2.1 62 1)) 10 (m.2.1 62 2)) 11 (m.2.1 62 3)) 12 (m.2.1 62 4))) 62 (up (up (up (up (up (up (m.2.1 62) 8 (m.2.1 62 0)) 9 (m.2.1 62 1)) 10 (m.2.1 62 2)) 11 (m.2.1 62 3)) 12 (m.2.1 62 4)) 13 (m.2.1 62 5))) := kI_U hm24 62 rfl (show ((-2147483648) : Int) ≤ m.2.1 62 5 by omega) (show m.2.1 62 5 ≤ (2147483647 : Int) by omega)
              have hf30 : fr [] [62] m (kA (kA (kA (kA (kA (kA m 62 (up (m.2.1 62) 8 (m.2.1 62 0))) 62 (up (up (m.2.1 62) 8 (m.2.1 62 0)) 9 (m.2.1 62 1))) 62 (up (up (up (m.2.1 62) 8 (m.2.1 62 0)) 9 (m.2.1 62 1)) 10 (m.2.1 62 2))) 62 (up (up (up (up (m.2.1 62) 8 (m.2.1 62 0)) 9 (m.2.1 62 1)) 10 (m.2.1 62 2)) 11 (m.2.1 62 3))) 62 (up (up (up (up (up (m.2.1 62) 8 (m.2.1 62 0)) 9 (m.2.1 62 1)) 10 (m.2.1 62 2)) 11 (m.2.1 62 3)) 12 (m.2.1 62 4))) 62 (up (up (up (up (up (up (m.2.1 62) 8 (m.2.1 62 0)) 9 (m.2.1 62 1)) 10 (m.2.1 62 2)) 11 (m.2.1 62 3)) 12 (m.2.1 62 4)) 13 (m.2.1 62 5))) := fr_A hf25 62 _ rfl
              refine g_iincE (z := 6) (by decide) (n := 3) (lo' := [(0, vR 61), (1, vI 0), (2, vI 1)]) rfl rfl rfl ?_
              refine g_goto rfl ?_
              refine g_iload_n (n := 3) rfl rfl ?_
              refine g_bipush (by decide) rfl ?_
              refine g_icmp_ge (by decide) (by decide) (by decide) (by decide) rfl ?_ ?_
              · intro k31
                exfalso; omega
              · intro k32
                refine g_aload_n (n := 0) rfl rfl ?_
                refine g_getf (v := vR 62) rfl (kl_61 _) rfl ?_
                refine g_bipush (by decide) rfl ?_
                refine g_iload_n (n := 2) rfl rfl ?_
                refine g_imulE (z := 8) (by decide) rfl ?_
                refine g_iload_n (n := 3) rfl rfl ?_
                refine g_iaddE (z := 14) (by decide) rfl ?_
                refine g_aload_n (n := 0) rfl rfl ?_
                refine g_getf (v := vR 62) rfl (kl_61 _) rfl ?_
                refine g_bipush (by decide) rfl ?_
                refine g_iload_n (n := 1) rfl rfl ?_
                refine g_imulE (z := 0) (by decide) rfl ?_
                refine g_iload_n (n := 3) rfl rfl ?_
                refine g_iaddE (z := 6) (by decide) rfl ?_
                have h33 : (-2147483648) ≤ m.2.1 62 6 ∧ m.2.1 62 6 ≤ 2147483647 := hm.2 62 6 (by decide) (show (6 : Int) < 48 by decide)
                refine g_ialE (f := up (up (up (up (up (up (m.2.1 62) 8 (m.2.1 62 0)) 9 (m.2.1 62 1)) 10 (m.2.1 62 2)) 11 (m.2.1 62 3)) 12 (m.2.1 62 4)) 13 (m.2.1 62 5)) (v := m.2.1 62 6) rfl (kl_62 _) (by decide) (by decide) (by decide) rfl ?_
                refine g_iAst (f := up (up (up (up (up (up (m.2.1 62) 8 (m.2.1 62 0)) 9 (m.2.1 62 1)) 10 (m.2.1 62 2)) 11 (m.2.1 62 3)) 12 (m.2.1 62 4)) 13 (m.2.1 62 5)) (m' := (kA (kA (kA (kA (kA (kA (kA m 62 (up (m.2.1 62) 8 (m.2.1 62 0))) 62 (up (up (m.2.1 62) 8 (m.2.1 62 0)) 9 (m.2.1 62 1))) 62 (up (up (up (m.2.1 62) 8 (m.2.1 62 0)) 9 (m.2.1 62 1)) 10 (m.2.1 62 2))) 62 (up (up (up (up (m.2.1 62) 8 (m.2.1 62 0)) 9 (m.2.1 62 1)) 10 (m.2.1 62 2)) 11 (m.2.1 62 3))) 62 (up (up (up (up (up (m.2.1 62) 8 (m.2.1 62 0)) 9 (m.2.1 62 1)) 10 (m.2.1 62 2)) 11 (m.2.1 62 3)) 12 (m.2.1 62 4))) 62 (up (up (up (up (up (up (m.2.1 62) 8 (m.2.1 62 0)) 9 (m.2.1 62 1)) 10 (m.2.1 62 2)) 11 (m.2.1 62 3)) 12 (m.2.1 62 4)) 13 (m.2.1 62 5))) 62 (up (up (up (up (up (up (up (m.2.1 62) 8 (m.2.1 62 0)) 9 (m.2.1 62 1)) 10 (m.2.1 62 2)) 11 (m.2.1 62 3)) 12 (m.2.1 62 4)) 13 (m.2.1 62 5)) 14 (m.2.1 62 6)))) rfl (kl_62 _) (by decide) (by omega) (by omega) (kA_62 _ _) ?_
                have hm34 : kI (kA (kA (kA (kA (kA (kA (kA m 62 (up (m.2.1 62) 8 (m.2.1 62 0))) 62 (up (up (m.2.1 62) 8 (m.2.1 62 0)) 9 (m.2.1 62 1))) 62 (up (up (up (m.2.1 62) 8 (m.2.1 62 0)) 9 (m.2.1 62 1)) 10 (m.2.1 62 2))) 62 (up (up (up (up (m.2.1 62) 8 (m.2.1 62 0)) 9 (m.2.1 62 1)) 10 (m.2.1 62 2)) 11 (m.2.1 62 3))) 62 (up (up (up (up (up (m.2.1 62) 8 (m.2.1 62 0)) 9 (m.2.1 62 1)) 10 (m.2.1 62 2)) 11 (m.2.1 62 3)) 12 (m.2.1 62 4))) 62 (up (up (up (up (up (up (m.2.1 62) 8 (m.2.1 62 0)) 9 (m.2.1 62 1)) 10 (m.2.1 62 2)) 11 (m.2.1 62 3)) 12 (m.2.1 62 4)) 13 (m.2.1 62 5))) 62 (up (up (up (up (up (up (up (m.2.1 62) 8 (m.2.1 62 0)) 9 (m.2.1 62 1)) 10 (m.2.1 62 2)) 11 (m.2.1 62 3)) 12 (m.2.1 62 4)) 13 (m.2.1 62 5)) 14 (m.2.1 62 6))) := kI_U hm29 62 rfl (show ((-2147483648) : Int) ≤ m.2.1 62 6 by omega) (show m.2.1 62 6 ≤ (2147483647 : Int) by omega)
                have hf35 : fr [] [62] m (kA (kA (kA (kA (kA (kA (kA m 62 (up (m.2.1 62) 8 (m.2.1 62 0))) 62 (up (up (m.2.1 62) 8 (m.2.1 62 0)) 9 (m.2.1 62 1))) 62 (up (up (up (m.2.1 62) 8 (m.2.1 62 0)) 9 (m.2.1 62 1)) 10 (m.2.1 62 2))) 62 (up (up (up (up (m.2.1 62) 8 (m.2.1 62 0)) 9 (m.2.1 62 1)) 10 (m.2.1 62 2)) 11 (m.2.1 62 3))) 62 (up (up (up (up (up (m.2.1 62) 8 (m.2.1 62 0)) 9 (m.2.1 62 1)) 10 (m.2.1 62 2)) 11 (m.2.1 62 3)) 12 (m.2.1 62 4))) 62 (up (up (up (up (up (up (m.2.1 62) 8 (m.2.1 62 0)) 9 (m.2.1 62 1)) 10 (m.2.1 62 2)) 11 (m.2.1 62 3)) 12 (m.2.1 62 4)) 13 (m.2.1 62 5))) 62 (up (up (up (up (up (up (up (m.2.1 62) 8 (m.2.1 62 0)) 9 (m.2.1 62 1)) 10 (m.2.1 62 2)) 11 (m.2.1 62 3)) 12 (m.2.1 62 4)) 13 (m.2.1 62 5)) 14 (m.2.1 62 6))) := fr_A hf30 62 _ rfl
                refine g_iincE (z := 7) (by decide) (n := 3) (lo' := [(0, vR 61), (1, vI 0), (2, vI 1)]) rfl rfl rfl ?_
                refine g_goto rfl ?_
                refine g_iload_n (n := 3) rfl rfl ?_
                refine g_bipush (by decide) rfl ?_
                refine g_icmp_ge (by decide) (by decide) (by decide) (by decide) rfl ?_ ?_
                · intro k36
                  exfalso; omega
                · intro k37
                  refine g_aload_n (n := 0) rfl rfl ?_
                  refine g_getf (v := vR 62) rfl (kl_61 _) rfl ?_
                  refine g_bipush (by decide) rfl ?_
                  refine g_iload_n (n := 2) rfl rfl ?_
                  refine g_imulE (z := 8) (by decide) rfl ?_
                  refine g_iload_n (n := 3) rfl rfl ?_
                  refine g_iaddE (z := 15) (by decide) rfl ?_
                  refine g_aload_n (n := 0) rfl rfl ?_
                  refine g_getf (v := vR 62) rfl (kl_61 _) rfl ?_
                  refine g_bipush (by decide) rfl ?_
                  refine g_iload_n (n := 1) rfl rfl ?_
                  refine g_imulE (z := 0) (by decide) rfl ?_
                  refine g_iload_n (n := 3) rfl rfl ?_
                  refine g_iaddE (z := 7) (by decide) rfl ?_
                  have h38 : (-2147483648) ≤ m.2.1 62 7 ∧ m.2.1 62 7 ≤ 2147483647 := hm.2 62 7 (by decide) (show (7 : Int) < 48 by decide)
                  refine g_ialE (f := up (up (up (up (up (up (up (m.2.1 62) 8 (m.2.1 62 0)) 9 (m.2.1 62 1)) 10 (m.2.1 62 2)) 11 (m.2.1 62 3)) 12 (m.2.1 62 4)) 13 (m.2.1 62 5)) 14 (m.2.1 62 6)) (v := m.2.1 62 7) rfl (kl_62 _) (by decide) (by decide) (by decide) rfl ?_
                  refine g_iAst (f := up (up (up (up (up (up (up (m.2.1 62) 8 (m.2.1 62 0)) 9 (m.2.1 62 1)) 10 (m.2.1 62 2)) 11 (m.2.1 62 3)) 12 (m.2.1 62 4)) 13 (m.2.1 62 5)) 14 (m.2.1 62 6)) (m' := (kA (kA (kA (kA (kA (kA (kA (kA m 62 (up (m.2.1 62) 8 (m.2.1 62 0))) 62 (up (up (m.2.1 62) 8 (m.2.1 62 0)) 9 (m.2.1 62 1))) 62 (up (up (up (m.2.1 62) 8 (m.2.1 62 0)) 9 (m.2.1 62 1)) 10 (m.2.1 62 2))) 62 (up (up (up (up (m.2.1 62) 8 (m.2.1 62 0)) 9 (m.2.1 62 1)) 10 (m.2.1 62 2)) 11 (m.2.1 62 3))) 62 (up (up (up (up (up (m.2.1 62) 8 (m.2.1 62 0)) 9 (m.2.1 62 1)) 10 (m.2.1 62 2)) 11 (m.2.1 62 3)) 12 (m.2.1 62 4))) 62 (up (up (up (up (up (up (m.2.1 62) 8 (m.2.1 62 0)) 9 (m.2.1 62 1)) 10 (m.2.1 62 2)) 11 (m.2.1 62 3)) 12 (m.2.1 62 4)) 13 (m.2.1 62 5))) 62 (up (up (up (up (up (up (up (m.2.1 62) 8 (m.2.1 62 0)) 9 (m.2.1 62 1)) 10 (m.2.1 62 2)) 11 (m.2.1 62 3)) 12 (m.2.1 62 4)) 13 (m.2.1 62 5)) 14 (m.2.1 62 6))) 62 (up (up (up (up (up (up (up (up (m.2.1 62) 8 (m.2.1 62 0)) 9 (m.2.1 62 1)) 10 (m.2.1 62 2)) 11 (m.2.1 62 3)) 12 (m.2.1 62 4)) 13 (m.2.1 62 5)) 14 (m.2.1 62 6)) 15 (m.2.1 62 7)))) rfl (kl_62 _) (by decide) (by omega) (by omega) (kA_62 _ _) ?_
                  have hm39 : kI (kA (kA (kA (kA (kA (kA (kA (kA m 62 (up (m.2.1 62) 8 (m.2.1 62 0))) 62 (up (up (m.2.1 62) 8 (m.2.1 62 0)) 9 (m.2.1 62 1))) 62 (up (up (up (m.2.1 62) 8 (m.2.1 62 0)) 9 (m.2.1 62 1)) 10 (m.2.1 62 2))) 62 (up (up (up (up (m.2.1 62) 8 (m.2.1 62 0)) 9 (m.2.1 62 1)) 10 (m.2.1 62 2)) 11 (m.2.1 62 3))) 62 (up (up (up (up (up (m.2.1 62) 8 (m.2.1 62 0)) 9 (m.2.1 62 1)) 10 (m.2.1 62 2)) 11 (m.2.1 62 3)) 12 (m.2.1 62 4))) 62 (up (up (up (up (up (up (m.2.1 62) 8 (m.2.1 62 0)) 9 (m.2.1 62 1)) 10 (m.2.1 62 2)) 11 (m.2.1 62 3)) 12 (m.2.1 62 4)) 13 (m.2.1 62 5))) 62 (up (up (up (up (up (up (up (m.2.1 62) 8 (m.2.1 62 0)) 9 (m.2.1 62 1)) 10 (m.2.1 62 2)) 11 (m.2.1 62 3)) 12 (m.2.1 62 4)) 13 (m.2.1 62 5)) 14 (m.2.1 62 6))) 62 (up (up (up (up (up (up (up (up (m.2.1 62) 8 (m.2.1 62 0)) 9 (m.2.1 62 1)) 10 (m.2.1 62 2)) 11 (m.2.1 62 3)) 12 (m.2.1 62 4)) 13 (m.2.1 62 5)) 14 (m.2.1 62 6)) 15 (m.2.1 62 7))) := kI_U hm34 62 rfl (show ((-2147483648) : Int) ≤ m.2.1 62 7 by omega) (show m.2.1 62 7 ≤ (2147483647 : Int) by omega)
                  have hf40 : fr [] [62] m (kA (kA (kA (kA (kA (kA (kA (kA m 62 (up (m.2.1 62) 8 (m.2.1 62 0))) 62 (up (up (m.2.1 62) 8 (m.2.1 62 0)) 9 (m.2.1 62 1))) 62 (up (up (up (m.2.1 62) 8 (m.2.1 62 0)) 9 (m.2.1 62 1)) 10 (m.2.1 62 2))) 62 (up (up (up (up (m.2.1 62) 8 (m.2.1 62 0)) 9 (m.2.1 62 1)) 10 (m.2.1 62 2)) 11 (m.2.1 62 3))) 62 (up (up (up (up (up (m.2.1 62) 8 (m.2.1 62 0)) 9 (m.2.1 62 1)) 10 (m.2.1 62 2)) 11 (m.2.1 62 3)) 12 (m.2.1 62 4))) 62 (up (up (up (up (up (up (m.2.1 62) 8 (m.2.1 62 0)) 9 (m.2.1 62 1)) 10 (m.2.1 62 2)) 11 (m.2.1 62 3)) 12 (m.2.1 62 4)) 13 (m.2.1 62 5))) 62 (up (up (up (up (up (up (up (m.2.1 62) 8 (m.2.1 62 0)) 9 (m.2.1 62 1)) 10 (m.2.1 62 2)) 11 (m.2.1 62 3)) 12 (m.2.1 62 4)) 13 (m.2.1 62 5)) 14 (m.2.1 62 6))) 62 (up (up (up (up (up (up (up (up (m.2.1 62) 8 (m.2.1 62 0)) 9 (m.2.1 62 1)) 10 (m.2.1 62 2)) 11 (m.2.1 62 3)) 12 (m.2.1 62 4)) 13 (m.2.1 62 5)) 14 (m.2.1 62 6)) 15 (m.2.1 62 7))) := fr_A hf35 62 _ rfl
                  refine g_iincE (z := 8) (by decide) (n := 3) (lo' := [(0, vR 61), (1, vI 0), (2, vI 1)]) rfl rfl rfl ?_
                  refine g_goto rfl ?_
                  refine g_iload_n (n := 3) rfl rfl ?_
                  refine g_bipush (by decide) rfl ?_
                  refine g_icmp_ge (by decide) (by decide) (by decide) (by decide) rfl ?_ ?_
                  · intro k41
                    refine g_vret rfl rfl ?_
                    exact ⟨_, rfl, hm39, hf40, rfl, fun j hj => by show (up (up (up (up (up (up (up (up (m.2.1 62) 8 (m.2.1 62 0)) 9 (m.2.1 62 1)) 10 (m.2.1 62 2)) 11 (m.2.1 62 3)) 12 (m.2.1 62 4)) 13 (m.2.1 62 5)) 14 (m.2.1 62 6)) 15 (m.2.1 62 7)) j = m.2.1 62 j; rw [up_ne _ (by omega), up_ne _ (by omega), up_ne _ (by omega), up_ne _ (by omega), up_ne _ (by omega), up_ne _ (by omega), up_ne _ (by omega), up_ne _ (by omega)]⟩
                  · intro k42
                    exfalso; omega
theorem d_copy_0_2 {V : cg_V} {d q : Nat} (hd : 0 ≤ d) (hq : 0 ≤ q) {m : kM} (hm : kI m) : cg_S V d q mX10_copy [vR 61, vI 0, vI 2] (kl m) (R_V (fun m' => (kI m') ∧ (fr [] [62] m m') ∧ (kr2 (m'.2.1 62) = kr0 (m.2.1 62)) ∧ (∀ j : Int, (j < 16 ∨ 24 ≤ j) → m'.2.1 62 j = m.2.1 62 j))) := by
  have hf0 : fr [] [62] m m := fr_rf m
  refine cg_of (List.mem_of_getElem? (show ae_MT[145]? = some mX10_copy from rfl)) (Nat.le_of_ble_eq_true rfl) ?_
  show cg_G V mX10_copy d q _ 0 [(0, vR 61), (1, vI 0), (2, vI 2)] [] (kl m) 0 0
  refine g_iconst rfl ?_
  refine g_istore_n (n := 3) (lo' := [(0, vR 61), (1, vI 0), (2, vI 2)]) rfl rfl ?_
  refine g_iload_n (n := 3) rfl rfl ?_
  refine g_bipush (by decide) rfl ?_
  refine g_icmp_ge (by decide) (by decide) (by decide) (by decide) rfl ?_ ?_
  · intro k1
    exfalso; omega
  · intro k2
    refine g_aload_n (n := 0) rfl rfl ?_
    refine g_getf (v := vR 62) rfl (kl_61 _) rfl ?_
    refine g_bipush (by decide) rfl ?_
    refine g_iload_n (n := 2) rfl rfl ?_
    refine g_imulE (z := 16) (by decide) rfl ?_
    refine g_iload_n (n := 3) rfl rfl ?_
    refine g_iaddE (z := 16) (by decide) rfl ?_
    refine g_aload_n (n := 0) rfl rfl ?_
    refine g_getf (v := vR 62) rfl (kl_61 _) rfl ?_
    refine g_bipush (by decide) rfl ?_
    refine g_iload_n (n := 1) rfl rfl ?_
    refine g_imulE (z := 0) (by decide) rfl ?_
    refine g_iload_n (n := 3) rfl rfl ?_
    refine g_iaddE (z := 0) (by decide) rfl ?_
    have h3 : (-2147483648) ≤ m.2.1 62 0 ∧ m.2.1 62 0 ≤ 2147483647 := hm.2 62 0 (by decide) (show (0 : Int) < 48 by decide)
    refine g_ialE (f := m.2.1 62) (v := m.2.1 62 0) rfl (kl_62 _) (by decide) (by decide) (by decide) rfl ?_
    refine g_iAst (f := m.2.1 62) (m' := (kA m 62 (up (m.2.1 62) 16 (m.2.1 62 0)))) rfl (kl_62 _) (by decide) (by omega) (by omega) (kA_62 _ _) ?_
    have hm4 : kI (kA m 62 (up (m.2.1 62) 16 (m.2.1 62 0))) := kI_U hm 62 rfl (show ((-2147483648) : Int) ≤ m.2.1 62 0 by omega) (show m.2.1 62 0 ≤ (2147483647 : Int) by omega)
    have hf5 : fr [] [62] m (kA m 62 (up (m.2.1 62) 16 (m.2.1 62 0))) := fr_A hf0 62 _ rfl
    refine g_iincE (z := 1) (by decide) (n := 3) (lo' := [(0, vR 61), (1, vI 0), (2, vI 2)]) rfl rfl rfl ?_
    refine g_goto rfl ?_
    refine g_iload_n (n := 3) rfl rfl ?_
    refine g_bipush (by decide) rfl ?_
    refine g_icmp_ge (by decide) (by decide) (by decide) (by decide) rfl ?_ ?_
    · intro k6
      exfalso; omega
    · intro k7
      refine g_aload_n (n := 0) rfl rfl ?_
      refine g_getf (v := vR 62) rfl (kl_61 _) rfl ?_
      refine g_bipush (by decide) rfl ?_
      refine g_iload_n (n := 2) rfl rfl ?_
      refine g_imulE (z := 16) (by decide) rfl ?_
      refine g_iload_n (n := 3) rfl rfl ?_
      refine g_iaddE (z := 17) (by decide) rfl ?_
      refine g_aload_n (n := 0) rfl rfl ?_
      refine g_getf (v := vR 62) rfl (kl_61 _) rfl ?_
      refine g_bipush (by decide) rfl ?_
      refine g_iload_n (n := 1) rfl rfl ?_
      refine g_imulE (z := 0) (by decide) rfl ?_
      refine g_iload_n (n := 3) rfl rfl ?_
      refine g_iaddE (z := 1) (by decide) rfl ?_
      have h8 : (-2147483648) ≤ m.2.1 62 1 ∧ m.2.1 62 1 ≤ 2147483647 := hm.2 62 1 (by decide) (show (1 : Int) < 48 by decide)
      refine g_ialE (f := up (m.2.1 62) 16 (m.2.1 62 0)) (v := m.2.1 62 1) rfl (kl_62 _) (by decide) (by decide) (by decide) rfl ?_
      refine g_iAst (f := up (m.2.1 62) 16 (m.2.1 62 0)) (m' := (kA (kA m 62 (up (m.2.1 62) 16 (m.2.1 62 0))) 62 (up (up (m.2.1 62) 16 (m.2.1 62 0)) 17 (m.2.1 62 1)))) rfl (kl_62 _) (by decide) (by omega) (by omega) (kA_62 _ _) ?_
      have hm9 : kI (kA (kA m 62 (up (m.2.1 62) 16 (m.2.1 62 0))) 62 (up (up (m.2.1 62) 16 (m.2.1 62 0)) 17 (m.2.1 62 1))) := kI_U hm4 62 rfl (show ((-2147483648) : Int) ≤ m.2.1 62 1 by omega) (show m.2.1 62 1 ≤ (2147483647 : Int) by omega)
      have hf10 : fr [] [62] m (kA (kA m 62 (up (m.2.1 62) 16 (m.2.1 62 0))) 62 (up (up (m.2.1 62) 16 (m.2.1 62 0)) 17 (m.2.1 62 1))) := fr_A hf5 62 _ rfl
      refine g_iincE (z := 2) (by decide) (n := 3) (lo' := [(0, vR 61), (1, vI 0), (2, vI 2)]) rfl rfl rfl ?_
      refine g_goto rfl ?_
      refine g_iload_n (n := 3) rfl rfl ?_
      refine g_bipush (by decide) rfl ?_
      refine g_icmp_ge (by decide) (by decide) (by decide) (by decide) rfl ?_ ?_
      · intro k11
        exfalso; omega
      · intro k12
        refine g_aload_n (n := 0) rfl rfl ?_
        refine g_getf (v := vR 62) rfl (kl_61 _) rfl ?_
        refine g_bipush (by decide) rfl ?_
        refine g_iload_n (n := 2) rfl rfl ?_
        refine g_imulE (z := 16) (by decide) rfl ?_
        refine g_iload_n (n := 3) rfl rfl ?_
        refine g_iaddE (z := 18) (by decide) rfl ?_
        refine g_aload_n (n := 0) rfl rfl ?_
        refine g_getf (v := vR 62) rfl (kl_61 _) rfl ?_
        refine g_bipush (by decide) rfl ?_
        refine g_iload_n (n := 1) rfl rfl ?_
        refine g_imulE (z := 0) (by decide) rfl ?_
        refine g_iload_n (n := 3) rfl rfl ?_
        refine g_iaddE (z := 2) (by decide) rfl ?_
        have h13 : (-2147483648) ≤ m.2.1 62 2 ∧ m.2.1 62 2 ≤ 2147483647 := hm.2 62 2 (by decide) (show (2 : Int) < 48 by decide)
        refine g_ialE (f := up (up (m.2.1 62) 16 (m.2.1 62 0)) 17 (m.2.1 62 1)) (v := m.2.1 62 2) rfl (kl_62 _) (by decide) (by decide) (by decide) rfl ?_
        refine g_iAst (f := up (up (m.2.1 62) 16 (m.2.1 62 0)) 17 (m.2.1 62 1)) (m' := (kA (kA (kA m 62 (up (m.2.1 62) 16 (m.2.1 62 0))) 62 (up (up (m.2.1 62) 16 (m.2.1 62 0)) 17 (m.2.1 62 1))) 62 (up (up (up (m.2.1 62) 16 (m.2.1 62 0)) 17 (m.2.1 62 1)) 18 (m.2.1 62 2)))) rfl (kl_62 _) (by decide) (by omega) (by omega) (kA_62 _ _) ?_
        have hm14 : kI (kA (kA (kA m 62 (up (m.2.1 62) 16 (m.2.1 62 0))) 62 (up (up (m.2.1 62) 16 (m.2.1 62 0)) 17 (m.2.1 62 1))) 62 (up (up (up (m.2.1 62) 16 (m.2.1 62 0)) 17 (m.2.1 62 1)) 18 (m.2.1 62 2))) := kI_U hm9 62 rfl (show ((-2147483648) : Int) ≤ m.2.1 62 2 by omega) (show m.2.1 62 2 ≤ (2147483647 : Int) by omega)
        have hf15 : fr [] [62] m (kA (kA (kA m 62 (up (m.2.1 62) 16 (m.2.1 62 0))) 62 (up (up (m.2.1 62) 16 (m.2.1 62 0)) 17 (m.2.1 62 1))) 62 (up (up (up (m.2.1 62) 16 (m.2.1 62 0)) 17 (m.2.1 62 1)) 18 (m.2.1 62 2))) := fr_A hf10 62 _ rfl
        refine g_iincE (z := 3) (by decide) (n := 3) (lo' := [(0, vR 61), (1, vI 0), (2, vI 2)]) rfl rfl rfl ?_
        refine g_goto rfl ?_
        refine g_iload_n (n := 3) rfl rfl ?_
        refine g_bipush (by decide) rfl ?_
        refine g_icmp_ge (by decide) (by decide) (by decide) (by decide) rfl ?_ ?_
        · intro k16
          exfalso; omega
        · intro k17
          refine g_aload_n (n := 0) rfl rfl ?_
          refine g_getf (v := vR 62) rfl (kl_61 _) rfl ?_
          refine g_bipush (by decide) rfl ?_
          refine g_iload_n (n := 2) rfl rfl ?_
          refine g_imulE (z := 16) (by decide) rfl ?_
          refine g_iload_n (n := 3) rfl rfl ?_
          refine g_iaddE (z := 19) (by decide) rfl ?_
          refine g_aload_n (n := 0) rfl rfl ?_
          refine g_getf (v := vR 62) rfl (kl_61 _) rfl ?_
          refine g_bipush (by decide) rfl ?_
          refine g_iload_n (n := 1) rfl rfl ?_
          refine g_imulE (z := 0) (by decide) rfl ?_
          refine g_iload_n (n := 3) rfl rfl ?_
          refine g_iaddE (z := 3) (by decide) rfl ?_
          have h18 : (-2147483648) ≤ m.2.1 62 3 ∧ m.2.1 62 3 ≤ 2147483647 := hm.2 62 3 (by decide) (show (3 : Int) < 48 by decide)
          refine g_ialE (f := up (up (up (m.2.1 62) 16 (m.2.1 62 0)) 17 (m.2.1 62 1)) 18 (m.2.1 62 2)) (v := m.2.1 62 3) rfl (kl_62 _) (by decide) (by decide) (by decide) rfl ?_
          refine g_iAst (f := up (up (up (m.2.1 62) 16 (m.2.1 62 0)) 17 (m.2.1 62 1)) 18 (m.2.1 62 2)) (m' := (kA (kA (kA (kA m 62 (up (m.2.1 62) 16 (m.2.1 62 0))) 62 (up (up (m.2.1 62) 16 (m.2.1 62 0)) 17 (m.2.1 62 1))) 62 (up (up (up (m.2.1 62) 16 (m.2.1 62 0)) 17 (m.2.1 62 1)) 18 (m.2.1 62 2))) 62 (up (up (up (up (m.2.1 62) 16 (m.2.1 62 0)) 17 (m.2.1 62 1)) 18 (m.2.1 62 2)) 19 (m.2.1 62 3)))) rfl (kl_62 _) (by decide) (by omega) (by omega) (kA_62 _ _) ?_
          have hm19 : kI (kA (kA (kA (kA m 62 (up (m.2.1 62) 16 (m.2.1 62 0))) 62 (up (up (m.2.1 62) 16 (m.2.1 62 0)) 17 (m.2.1 62 1))) 62 (up (up (up (m.2.1 62) 16 (m.2.1 62 0)) 17 (m.2.1 62 1)) 18 (m.2.1 62 2))) 62 (up (up (up (up (m.2.1 62) 16 (m.2.1 62 0)) 17 (m.2.1 62 1)) 18 (m.2.1 62 2)) 19 (m.2.1 62 3))) := kI_U hm14 62 rfl (show ((-2147483648) : Int) ≤ m.2.1 62 3 by omega) (show m.2.1 62 3 ≤ (2147483647 : Int) by omega)
          have hf20 : fr [] [62] m (kA (kA (kA (kA m 62 (up (m.2.1 62) 16 (m.2.1 62 0))) 62 (up (up (m.2.1 62) 16 (m.2.1 62 0)) 17 (m.2.1 62 1))) 62 (up (up (up (m.2.1 62) 16 (m.2.1 62 0)) 17 (m.2.1 62 1)) 18 (m.2.1 62 2))) 62 (up (up (up (up (m.2.1 62) 16 (m.2.1 62 0)) 17 (m.2.1 62 1)) 18 (m.2.1 62 2)) 19 (m.2.1 62 3))) := fr_A hf15 62 _ rfl
          refine g_iincE (z := 4) (by decide) (n := 3) (lo' := [(0, vR 61), (1, vI 0), (2, vI 2)]) rfl rfl rfl ?_
          refine g_goto rfl ?_
          refine g_iload_n (n := 3) rfl rfl ?_
          refine g_bipush (by decide) rfl ?_
          refine g_icmp_ge (by decide) (by decide) (by decide) (by decide) rfl ?_ ?_
          · intro k21
            exfalso; omega
          · intro k22
            refine g_aload_n (n := 0) rfl rfl ?_
            refine g_getf (v := vR 62) rfl (kl_61 _) rfl ?_
            refine g_bipush (by decide) rfl ?_
            refine g_iload_n (n := 2) rfl rfl ?_
            refine g_imulE (z := 16) (by decide) rfl ?_
            refine g_iload_n (n := 3) rfl rfl ?_
            refine g_iaddE (z := 20) (by decide) rfl ?_
            refine g_aload_n (n := 0) rfl rfl ?_
            refine g_getf (v := vR 62) rfl (kl_61 _) rfl ?_
            refine g_bipush (by decide) rfl ?_
            refine g_iload_n (n := 1) rfl rfl ?_
            refine g_imulE (z := 0) (by decide) rfl ?_
            refine g_iload_n (n := 3) rfl rfl ?_
            refine g_iaddE (z := 4) (by decide) rfl ?_
            have h23 : (-2147483648) ≤ m.2.1 62 4 ∧ m.2.1 62 4 ≤ 2147483647 := hm.2 62 4 (by decide) (show (4 : Int) < 48 by decide)
            refine g_ialE (f := up (up (up (up (m.2.1 62) 16 (m.2.1 62 0)) 17 (m.2.1 62 1)) 18 (m.2.1 62 2)) 19 (m.2.1 62 3)) (v := m.2.1 62 4) rfl (kl_62 _) (by decide) (by decide) (by decide) rfl ?_
            refine g_iAst (f := up (up (up (up (m.2.1 62) 16 (m.2.1 62 0)) 17 (m.2.1 62 1)) 18 (m.2.1 62 2)) 19 (m.2.1 62 3)) (m' := (kA (kA (kA (kA (kA m 62 (up (m.2.1 62) 16 (m.2.1 62 0))) 62 (up (up (m.2.1 62) 16 (m.2.1 62 0)) 17 (m.2.1 62 1))) 62 (up (up (up (m.2.1 62) 16 (m.2.1 62 0)) 17 (m.2.1 62 1)) 18 (m.2.1 62 2))) 62 (up (up (up (up (m.2.1 62) 16 (m.2.1 62 0)) 17 (m.2.1 62 1)) 18 (m.2.1 62 2)) 19 (m.2.1 62 3))) 62 (up (up (up (up (up (m.2.1 62) 16 (m.2.1 62 0)) 17 (m.2.1 62 1)) 18 (m.2.1 62 2)) 19 (m.2.1 62 3)) 20 (m.2.1 62 4)))) rfl (kl_62 _) (by decide) (by omega) (by omega) (kA_62 _ _) ?_
            have hm24 : kI (kA (kA (kA (kA (kA m 62 (up (m.2.1 62) 16 (m.2.1 62 0))) 62 (up (up (m.2.1 62) 16 (m.2.1 62 0)) 17 (m.2.1 62 1))) 62 (up (up (up (m.2.1 62) 16 (m.2.1 62 0)) 17 (m.2.1 62 1)) 18 (m.2.1 62 2))) 62 (up (up (up (up (m.2.1 62) 16 (m.2.1 62 0)) 17 (m.2.1 62 1)) 18 (m.2.1 62 2)) 19 (m.2.1 62 3))) 62 (up (up (up (up (up (m.2.1 62) 16 (m.2.1 62 0)) 17 (m.2.1 62 1)) 18 (m.2.1 62 2)) 19 (m.2.1 62 3)) 20 (m.2.1 62 4))) := kI_U hm19 62 rfl (show ((-2147483648) : Int) ≤ m.2.1 62 4 by omega) (show m.2.1 62 4 ≤ (2147483647 : Int) by omega)
            have hf25 : fr [] [62] m (kA (kA (kA (kA (kA m 62 (up (m.2.1 62) 16 (m.2.1 62 0))) 62 (up (up (m.2.1 62) 16 (m.2.1 62 0)) 17 (m.2.1 62 1))) 62 (up (up (up (m.2.1 62) 16 (m.2.1 62 0)) 17 (m.2.1 62 1)) 18 (m.2.1 62 2))) 62 (up (up (up (up (m.2.1 62) 16 (m.2.1 62 0)) 17 (m.2.1 62 1)) 18 (m.2.1 62 2)) 19 (m.2.1 62 3))) 62 (up (up (up (up (up (m.2.1 62) 16 (m.2.1 62 0)) 17 (m.2.1 62 1)) 18 (m.2.1 62 2)) 19 (m.2.1 62 3)) 20 (m.2.1 62 4))) := fr_A hf20 62 _ rfl
            refine g_iincE (z := 5) (by decide) (n := 3) (lo' := [(0, vR 61), (1, vI 0), (2, vI 2)]) rfl rfl rfl ?_
            refine g_goto rfl ?_
            refine g_iload_n (n := 3) rfl rfl ?_
            refine g_bipush (by decide) rfl ?_
            refine g_icmp_ge (by decide) (by decide) (by decide) (by decide) rfl ?_ ?_
            · intro k26
              exfalso; omega
            · intro k27
              refine g_aload_n (n := 0) rfl rfl ?_
              refine g_getf (v := vR 62) rfl (kl_61 _) rfl ?_
              refine g_bipush (by decide) rfl ?_
              refine g_iload_n (n := 2) rfl rfl ?_
              refine g_imulE (z := 16) (by decide) rfl ?_
              refine g_iload_n (n := 3) rfl rfl ?_
              refine g_iaddE (z := 21) (by decide) rfl ?_
              refine g_aload_n (n := 0) rfl rfl ?_
              refine g_getf (v := vR 62) rfl (kl_61 _) rfl ?_
              refine g_bipush (by decide) rfl ?_
              refine g_iload_n (n := 1) rfl rfl ?_
              refine g_imulE (z := 0) (by decide) rfl ?_
              refine g_iload_n (n := 3) rfl rfl ?_
              refine g_iaddE (z := 5) (by decide) rfl ?_
              have h28 : (-2147483648) ≤ m.2.1 62 5 ∧ m.2.1 62 5 ≤ 2147483647 := hm.2 62 5 (by decide) (show (5 : Int) < 48 by decide)
              refine g_ialE (f := up (up (up (up (up (m.2.1 62) 16 (m.2.1 62 0)) 17 (m.2.1 62 1)) 18 (m.2.1 62 2)) 19 (m.2.1 62 3)) 20 (m.2.1 62 4)) (v := m.2.1 62 5) rfl (kl_62 _) (by decide) (by decide) (by decide) rfl ?_
              refine g_iAst (f := up (up (up (up (up (m.2.1 62) 16 (m.2.1 62 0)) 17 (m.2.1 62 1)) 18 (m.2.1 62 2)) 19 (m.2.1 62 3)) 20 (m.2.1 62 4)) (m' := (kA (kA (kA (kA (kA (kA m 62 (up (m.2.1 62) 16 (m.2.1 62 0))) 62 (up (up (m.2.1 62) 16 (m.2.1 62 0)) 17 (m.2.1 62 1))) 62 (up (up (up (m.2.1 62) 16 (m.2.1 62 0)) 17 (m.2.1 62 1)) 18 (m.2.1 62 2))) 62 (up (up (up (up (m.2.1 62) 16 (m.2.1 62 0)) 17 (m.2.1 62 1)) 18 (m.2.1 62 2)) 19 (m.2.1 62 3))) 62 (up (up (up (up (up (m.2.1 62) 16 (m.2.1 62 0)) 17 (m.2.1 62 1)) 18 (m.2.1 62 2)) 19 (m.2.1 62 3)) 20 (m.2.1 62 4))) 62 (up (up (up (up (up (up (m.2.1 62) 16 (m.2.1 62 0)) 17 (m.2.1 62 1)) 18 (m.2.1 62 2)) 19 (m.2.1 62 3)) 20 (m.2.1 62 4)) 21 (m.2.1 62 5)))) rfl (kl_62 _) (by decide) (by omega) (by omega) (kA_62 _ _) ?_
              have hm29 : kI (kA (kA (kA (kA (kA (kA m 62 (up (m.2.1 62) 16 (m.2.1 62 0))) 62 (up (up (m.2.1 62) 16 (m.2.1 62 0)) 17 (m.2.1 62 1))) 62 (up (up (up (m.2.1 62) 16 (m.2.1 62 0)) 17 (m.2.1 62 1)) 18 (m.2.1 62 2))) 62 (up (up (up (up (m.2.1 62) 16 (m.2.1 62 0)) 17 (m.2.1 62 1)) 18 (m.2.1 62 2)) 19 (m.2.1 62 3))) 62 (up (up (up (up (up (m.2.1 62) 16 (m.2.1 62 0)) 17 (m.2.1 62 1)) 18 (m.2.1 62 2)) 19 (m.2.1 62 3)) 20 (m.2.1 62 4))) 62 (up (up (up (up (up (up (m.2.1 62) 16 (m.2.1 62 0)) 17 (m.2.1 62 1)) 18 (m.2.1 62 2)) 19 (m.2.1 62 3)) 20 (m.2.1 62 4)) 21 (m.2.1 62 5))) := kI_U hm24 62 rfl (show ((-2147483648) : Int) ≤ m.2.1 62 5 by omega) (show m.2.1 62 5 ≤ (2147483647 : Int) by omega)
              have hf30 : fr [] [62] m (kA (kA (kA (kA (kA (kA m 62 (up (m.2.1 62) 16 (m.2.1 62 0))) 62 (up (up (m.2.1 62) 16 (m.2.1 62 0)) 17 (m.2.1 62 1))) 62 (up (up (up (m.2.1 62) 16 (m.2.1 62 0)) 17 (m.2.1 62 1)) 18 (m.2.1 62 2))) 62 (up (up (up (up (m.2.1 62) 16 (m.2.1 62 0)) 17 (m.2.1 62 1)) 18 (m.2.1 62 2)) 19 (m.2.1 62 3))) 62 (up (up (up (up (up (m.2.1 62) 16 (m.2.1 62 0)) 17 (m.2.1 62 1)) 18 (m.2.1 62 2)) 19 (m.2.1 62 3)) 20 (m.2.1 62 4))) 62 (up (up (up (up (up (up (m.2.1 62) 16 (m.2.1 62 0)) 17 (m.2.1 62 1)) 18 (m.2.1 62 2)) 19 (m.2.1 62 3)) 20 (m.2.1 62 4)) 21 (m.2.1 62 5))) := fr_A hf25 62 _ rfl
              refine g_iincE (z := 6) (by decide) (n := 3) (lo' := [(0, vR 61), (1, vI 0), (2, vI 2)]) rfl rfl rfl ?_
              refine g_goto rfl ?_
              refine g_iload_n (n := 3) rfl rfl ?_
              refine g_bipush (by decide) rfl ?_
              refine g_icmp_ge (by decide) (by decide) (by decide) (by decide) rfl ?_ ?_
              · intro k31
                exfalso; omega
              · intro k32
                refine g_aload_n (n := 0) rfl rfl ?_
                refine g_getf (v := vR 62) rfl (kl_61 _) rfl ?_
                refine g_bipush (by decide) rfl ?_
                refine g_iload_n (n := 2) rfl rfl ?_
                refine g_imulE (z := 16) (by decide) rfl ?_
                refine g_iload_n (n := 3) rfl rfl ?_
                refine g_iaddE (z := 22) (by decide) rfl ?_
                refine g_aload_n (n := 0) rfl rfl ?_
                refine g_getf (v := vR 62) rfl (kl_61 _) rfl ?_
                refine g_bipush (by decide) rfl ?_
                refine g_iload_n (n := 1) rfl rfl ?_
                refine g_imulE (z := 0) (by decide) rfl ?_
                refine g_iload_n (n := 3) rfl rfl ?_
                refine g_iaddE (z := 6) (by decide) rfl ?_
                have h33 : (-2147483648) ≤ m.2.1 62 6 ∧ m.2.1 62 6 ≤ 2147483647 := hm.2 62 6 (by decide) (show (6 : Int) < 48 by decide)
                refine g_ialE (f := up (up (up (up (up (up (m.2.1 62) 16 (m.2.1 62 0)) 17 (m.2.1 62 1)) 18 (m.2.1 62 2)) 19 (m.2.1 62 3)) 20 (m.2.1 62 4)) 21 (m.2.1 62 5)) (v := m.2.1 62 6) rfl (kl_62 _) (by decide) (by decide) (by decide) rfl ?_
                refine g_iAst (f := up (up (up (up (up (up (m.2.1 62) 16 (m.2.1 62 0)) 17 (m.2.1 62 1)) 18 (m.2.1 62 2)) 19 (m.2.1 62 3)) 20 (m.2.1 62 4)) 21 (m.2.1 62 5)) (m' := (kA (kA (kA (kA (kA (kA (kA m 62 (up (m.2.1 62) 16 (m.2.1 62 0))) 62 (up (up (m.2.1 62) 16 (m.2.1 62 0)) 17 (m.2.1 62 1))) 62 (up (up (up (m.2.1 62) 16 (m.2.1 62 0)) 17 (m.2.1 62 1)) 18 (m.2.1 62 2))) 62 (up (up (up (up (m.2.1 62) 16 (m.2.1 62 0)) 17 (m.2.1 62 1)) 18 (m.2.1 62 2)) 19 (m.2.1 62 3))) 62 (up (up (up (up (up (m.2.1 62) 16 (m.2.1 62 0)) 17 (m.2.1 62 1)) 18 (m.2.1 62 2)) 19 (m.2.1 62 3)) 20 (m.2.1 62 4))) 62 (up (up (up (up (up (up (m.2.1 62) 16 (m.2.1 62 0)) 17 (m.2.1 62 1)) 18 (m.2.1 62 2)) 19 (m.2.1 62 3)) 20 (m.2.1 62 4)) 21 (m.2.1 62 5))) 62 (up (up (up (up (up (up (up (m.2.1 62) 16 (m.2.1 62 0)) 17 (m.2.1 62 1)) 18 (m.2.1 62 2)) 19 (m.2.1 62 3)) 20 (m.2.1 62 4)) 21 (m.2.1 62 5)) 22 (m.2.1 62 6)))) rfl (kl_62 _) (by decide) (by omega) (by omega) (kA_62 _ _) ?_
                have hm34 : kI (kA (kA (kA (kA (kA (kA (kA m 62 (up (m.2.1 62) 16 (m.2.1 62 0))) 62 (up (up (m.2.1 62) 16 (m.2.1 62 0)) 17 (m.2.1 62 1))) 62 (up (up (up (m.2.1 62) 16 (m.2.1 62 0)) 17 (m.2.1 62 1)) 18 (m.2.1 62 2))) 62 (up (up (up (up (m.2.1 62) 16 (m.2.1 62 0)) 17 (m.2.1 62 1)) 18 (m.2.1 62 2)) 19 (m.2.1 62 3))) 62 (up (up (up (up (up (m.2.1 62) 16 (m.2.1 62 0)) 17 (m.2.1 62 1)) 18 (m.2.1 62 2)) 19 (m.2.1 62 3)) 20 (m.2.1 62 4))) 62 (up (up (up (up (up (up (m.2.1 62) 16 (m.2.1 62 0)) 17 (m.2.1 62 1)) 18 (m.2.1 62 2)) 19 (m.2.1 62 3)) 20 (m.2.1 62 4)) 21 (m.2.1 62 5))) 62 (up (up (up (up (up (up (up (m.2.1 62) 16 (m.2.1 62 0)) 17 (m.2.1 62 1)) 18 (m.2.1 62 2)) 19 (m.2.1 62 3)) 20 (m.2.1 62 4)) 21 (m.2.1 62 5)) 22 (m.2.1 62 6))) := kI_U hm29 62 rfl (show ((-2147483648) : Int) ≤ m.2.1 62 6 by omega) (show m.2.1 62 6 ≤ (2147483647 : Int) by omega)
                have hf35 : fr [] [62] m (kA (kA (kA (kA (kA (kA (kA m 62 (up (m.2.1 62) 16 (m.2.1 62 0))) 62 (up (up (m.2.1 62) 16 (m.2.1 62 0)) 17 (m.2.1 62 1))) 62 (up (up (up (m.2.1 62) 16 (m.2.1 62 0)) 17 (m.2.1 62 1)) 18 (m.2.1 62 2))) 62 (up (up (up (up (m.2.1 62) 16 (m.2.1 62 0)) 17 (m.2.1 62 1)) 18 (m.2.1 62 2)) 19 (m.2.1 62 3))) 62 (up (up (up (up (up (m.2.1 62) 16 (m.2.1 62 0)) 17 (m.2.1 62 1)) 18 (m.2.1 62 2)) 19 (m.2.1 62 3)) 20 (m.2.1 62 4))) 62 (up (up (up (up (up (up (m.2.1 62) 16 (m.2.1 62 0)) 17 (m.2.1 62 1)) 18 (m.2.1 62 2)) 19 (m.2.1 62 3)) 20 (m.2.1 62 4)) 21 (m.2.1 62 5))) 62 (up (up (up (up (up (up (up (m.2.1 62) 16 (m.2.1 62 0)) 17 (m.2.1 62 1)) 18 (m.2.1 62 2)) 19 (m.2.1 62 3)) 20 (m.2.1 62 4)) 21 (m.2.1 62 5)) 22 (m.2.1 62 6))) := fr_A hf30 62 _ rfl
                refine g_iincE (z := 7) (by decide) (n := 3) (lo' := [(0, vR 61), (1, vI 0), (2, vI 2)]) rfl rfl rfl ?_
                refine g_goto rfl ?_
                refine g_iload_n (n := 3) rfl rfl ?_
                refine g_bipush (by decide) rfl ?_
                refine g_icmp_ge (by decide) (by decide) (by decide) (by decide) rfl ?_ ?_
                · intro k36
                  exfalso; omega
                · intro k37
                  refine g_aload_n (n := 0) rfl rfl ?_
                  refine g_getf (v := vR 62) rfl (kl_61 _) rfl ?_
                  refine g_bipush (by decide) rfl ?_
                  refine g_iload_n (n := 2) rfl rfl ?_
                  refine g_imulE (z := 16) (by decide) rfl ?_
                  refine g_iload_n (n := 3) rfl rfl ?_
                  refine g_iaddE (z := 23) (by decide) rfl ?_
                  refine g_aload_n (n := 0) rfl rfl ?_
                  refine g_getf (v := vR 62) rfl (kl_61 _) rfl ?_
                  refine g_bipush (by decide) rfl ?_
                  refine g_iload_n (n := 1) rfl rfl ?_
                  refine g_imulE (z := 0) (by decide) rfl ?_
                  refine g_iload_n (n := 3) rfl rfl ?_
                  refine g_iaddE (z := 7) (by decide) rfl ?_
                  have h38 : (-2147483648) ≤ m.2.1 62 7 ∧ m.2.1 62 7 ≤ 2147483647 := hm.2 62 7 (by decide) (show (7 : Int) < 48 by decide)
                  refine g_ialE (f := up (up (up (up (up (up (up (m.2.1 62) 16 (m.2.1 62 0)) 17 (m.2.1 62 1)) 18 (m.2.1 62 2)) 19 (m.2.1 62 3)) 20 (m.2.1 62 4)) 21 (m.2.1 62 5)) 22 (m.2.1 62 6)) (v := m.2.1 62 7) rfl (kl_62 _) (by decide) (by decide) (by decide) rfl ?_
                  refine g_iAst (f := up (up (up (up (up (up (up (m.2.1 62) 16 (m.2.1 62 0)) 17 (m.2.1 62 1)) 18 (m.2.1 62 2)) 19 (m.2.1 62 3)) 20 (m.2.1 62 4)) 21 (m.2.1 62 5)) 22 (m.2.1 62 6)) (m' := (kA (kA (kA (kA (kA (kA (kA (kA m 62 (up (m.2.1 62) 16 (m.2.1 62 0))) 62 (up (up (m.2.1 62) 16 (m.2.1 62 0)) 17 (m.2.1 62 1))) 62 (up (up (up (m.2.1 62) 16 (m.2.1 62 0)) 17 (m.2.1 62 1)) 18 (m.2.1 62 2))) 62 (up (up (up (up (m.2.1 62) 16 (m.2.1 62 0)) 17 (m.2.1 62 1)) 18 (m.2.1 62 2)) 19 (m.2.1 62 3))) 62 (up (up (up (up (up (m.2.1 62) 16 (m.2.1 62 0)) 17 (m.2.1 62 1)) 18 (m.2.1 62 2)) 19 (m.2.1 62 3)) 20 (m.2.1 62 4))) 62 (up (up (up (up (up (up (m.2.1 62) 16 (m.2.1 62 0)) 17 (m.2.1 62 1)) 18 (m.2.1 62 2)) 19 (m.2.1 62 3)) 20 (m.2.1 62 4)) 21 (m.2.1 62 5))) 62 (up (up (up (up (up (up (up (m.2.1 62) 16 (m.2.1 62 0)) 17 (m.2.1 62 1)) 18 (m.2.1 62 2)) 19 (m.2.1 62 3)) 20 (m.2.1 62 4)) 21 (m.2.1 62 5)) 22 (m.2.1 62 6))) 62 (up (up (up (up (up (up (up (up (m.2.1 62) 16 (m.2.1 62 0)) 17 (m.2.1 62 1)) 18 (m.2.1 62 2)) 19 (m.2.1 62 3)) 20 (m.2.1 62 4)) 21 (m.2.1 62 5)) 22 (m.2.1 62 6)) 23 (m.2.1 62 7)))) rfl (kl_62 _) (by decide) (by omega) (by omega) (kA_62 _ _) ?_
                  have hm39 : kI (kA (kA (kA (kA (kA (kA (kA (kA m 62 (up (m.2.1 62) 16 (m.2.1 62 0))) 62 (up (up (m.2.1 62) 16 (m.2.1 62 0)) 17 (m.2.1 62 1))) 62 (up (up (up (m.2.1 62) 16 (m.2.1 62 0)) 17 (m.2.1 62 1)) 18 (m.2.1 62 2))) 62 (up (up (up (up (m.2.1 62) 16 (m.2.1 62 0)) 17 (m.2.1 62 1)) 18 (m.2.1 62 2)) 19 (m.2.1 62 3))) 62 (up (up (up (up (up (m.2.1 62) 16 (m.2.1 62 0)) 17 (m.2.1 62 1)) 18 (m.2.1 62 2)) 19 (m.2.1 62 3)) 20 (m.2.1 62 4))) 62 (up (up (up (up (up (up (m.2.1 62) 16 (m.2.1 62 0)) 17 (m.2.1 62 1)) 18 (m.2.1 62 2)) 19 (m.2.1 62 3)) 20 (m.2.1 62 4)) 21 (m.2.1 62 5))) 62 (up (up (up (up (up (up (up (m.2.1 62) 16 (m.2.1 62 0)) 17 (m.2.1 62 1)) 18 (m.2.1 62 2)) 19 (m.2.1 62 3)) 20 (m.2.1 62 4)) 21 (m.2.1 62 5)) 22 (m.2.1 62 6))) 62 (up (up (up (up (up (up (up (up (m.2.1 62) 16 (m.2.1 62 0)) 17 (m.2.1 62 1)) 18 (m.2.1 62 2)) 19 (m.2.1 62 3)) 20 (m.2.1 62 4)) 21 (m.2.1 62 5)) 22 (m.2.1 62 6)) 23 (m.2.1 62 7))) := kI_U hm34 62 rfl (show ((-2147483648) : Int) ≤ m.2.1 62 7 by omega) (show m.2.1 62 7 ≤ (2147483647 : Int) by omega)
                  have hf40 : fr [] [62] m (kA (kA (kA (kA (kA (kA (kA (kA m 62 (up (m.2.1 62) 16 (m.2.1 62 0))) 62 (up (up (m.2.1 62) 16 (m.2.1 62 0)) 17 (m.2.1 62 1))) 62 (up (up (up (m.2.1 62) 16 (m.2.1 62 0)) 17 (m.2.1 62 1)) 18 (m.2.1 62 2))) 62 (up (up (up (up (m.2.1 62) 16 (m.2.1 62 0)) 17 (m.2.1 62 1)) 18 (m.2.1 62 2)) 19 (m.2.1 62 3))) 62 (up (up (up (up (up (m.2.1 62) 16 (m.2.1 62 0)) 17 (m.2.1 62 1)) 18 (m.2.1 62 2)) 19 (m.2.1 62 3)) 20 (m.2.1 62 4))) 62 (up (up (up (up (up (up (m.2.1 62) 16 (m.2.1 62 0)) 17 (m.2.1 62 1)) 18 (m.2.1 62 2)) 19 (m.2.1 62 3)) 20 (m.2.1 62 4)) 21 (m.2.1 62 5))) 62 (up (up (up (up (up (up (up (m.2.1 62) 16 (m.2.1 62 0)) 17 (m.2.1 62 1)) 18 (m.2.1 62 2)) 19 (m.2.1 62 3)) 20 (m.2.1 62 4)) 21 (m.2.1 62 5)) 22 (m.2.1 62 6))) 62 (up (up (up (up (up (up (up (up (m.2.1 62) 16 (m.2.1 62 0)) 17 (m.2.1 62 1)) 18 (m.2.1 62 2)) 19 (m.2.1 62 3)) 20 (m.2.1 62 4)) 21 (m.2.1 62 5)) 22 (m.2.1 62 6)) 23 (m.2.1 62 7))) := fr_A hf35 62 _ rfl
                  refine g_iincE (z := 8) (by decide) (n := 3) (lo' := [(0, vR 61), (1, vI 0), (2, vI 2)]) rfl rfl rfl ?_
                  refine g_goto rfl ?_
                  refine g_iload_n (n := 3) rfl rfl ?_
                  refine g_bipush (by decide) rfl ?_
                  refine g_icmp_ge (by decide) (by decide) (by decide) (by decide) rfl ?_ ?_
                  · intro k41
                    refine g_vret rfl rfl ?_
                    exact ⟨_, rfl, hm39, hf40, rfl, fun j hj => by show (up (up (up (up (up (up (up (up (m.2.1 62) 16 (m.2.1 62 0)) 17 (m.2.1 62 1)) 18 (m.2.1 62 2)) 19 (m.2.1 62 3)) 20 (m.2.1 62 4)) 21 (m.2.1 62 5)) 22 (m.2.1 62 6)) 23 (m.2.1 62 7)) j = m.2.1 62 j; rw [up_ne _ (by omega), up_ne _ (by omega), up_ne _ (by omega), up_ne _ (by omega), up_ne _ (by omega), up_ne _ (by omega), up_ne _ (by omega), up_ne _ (by omega)]⟩
                  · intro k42
                    exfalso; omega
theorem d_copy_1_0 {V : cg_V} {d q : Nat} (hd : 0 ≤ d) (hq : 0 ≤ q) {m : kM} (hm : kI m) : cg_S V d q mX10_copy [vR 61, vI 1, vI 0] (kl m) (R_V (fun m' => (kI m') ∧ (fr [] [62] m m') ∧ (kr0 (m'.2.1 62) = kr1 (m.2.1 62)) ∧ (∀ j : Int, (j < 0 ∨ 8 ≤ j) → m'.2.1 62 j = m.2.1 62 j))) := by
  have hf0 : fr [] [62] m m := fr_rf m
  refine cg_of (List.mem_of_getElem? (show ae_MT[145]? = some mX10_copy from rfl)) (Nat.le_of_ble_eq_true rfl) ?_
  show cg_G V mX10_copy d q _ 0 [(0, vR 61), (1, vI 1), (2, vI 0)] [] (kl m) 0 0
  refine g_iconst rfl ?_
  refine g_istore_n (n := 3) (lo' := [(0, vR 61), (1, vI 1), (2, vI 0)]) rfl rfl ?_
  refine g_iload_n (n := 3) rfl rfl ?_
  refine g_bipush (by decide) rfl ?_
  refine g_icmp_ge (by decide) (by decide) (by decide) (by decide) rfl ?_ ?_
  · intro k1
    exfalso; omega
  · intro k2
    refine g_aload_n (n := 0) rfl rfl ?_
    refine g_getf (v := vR 62) rfl (kl_61 _) rfl ?_
    refine g_bipush (by decide) rfl ?_
    refine g_iload_n (n := 2) rfl rfl ?_
    refine g_imulE (z := 0) (by decide) rfl ?_
    refine g_iload_n (n := 3) rfl rfl ?_
    refine g_iaddE (z := 0) (by decide) rfl ?_
    refine g_aload_n (n := 0) rfl rfl ?_
    refine g_getf (v := vR 62) rfl (kl_61 _) rfl ?_
    refine g_bipush (by decide) rfl ?_
    refine g_iload_n (n := 1) rfl rfl ?_
    refine g_imulE (z := 8) (by decide) rfl ?_
    refine g_iload_n (n := 3) rfl rfl ?_
    refine g_iaddE (z := 8) (by decide) rfl ?_
    have h3 : (-2147483648) ≤ m.2.1 62 8 ∧ m.2.1 62 8 ≤ 2147483647 := hm.2 62 8 (by decide) (show (8 : Int) < 48 by decide)
    refine g_ialE (f := m.2.1 62) (v := m.2.1 62 8) rfl (kl_62 _) (by decide) (by decide) (by decide) rfl ?_
    refine g_iAst (f := m.2.1 62) (m' := (kA m 62 (up (m.2.1 62) 0 (m.2.1 62 8)))) rfl (kl_62 _) (by decide) (by omega) (by omega) (kA_62 _ _) ?_
    have hm4 : kI (kA m 62 (up (m.2.1 62) 0 (m.2.1 62 8))) := kI_U hm 62 rfl (show ((-2147483648) : Int) ≤ m.2.1 62 8 by omega) (show m.2.1 62 8 ≤ (2147483647 : Int) by omega)
    have hf5 : fr [] [62] m (kA m 62 (up (m.2.1 62) 0 (m.2.1 62 8))) := fr_A hf0 62 _ rfl
    refine g_iincE (z := 1) (by decide) (n := 3) (lo' := [(0, vR 61), (1, vI 1), (2, vI 0)]) rfl rfl rfl ?_
    refine g_goto rfl ?_
    refine g_iload_n (n := 3) rfl rfl ?_
    refine g_bipush (by decide) rfl ?_
    refine g_icmp_ge (by decide) (by decide) (by decide) (by decide) rfl ?_ ?_
    · intro k6
      exfalso; omega
    · intro k7
      refine g_aload_n (n := 0) rfl rfl ?_
      refine g_getf (v := vR 62) rfl (kl_61 _) rfl ?_
      refine g_bipush (by decide) rfl ?_
      refine g_iload_n (n := 2) rfl rfl ?_
      refine g_imulE (z := 0) (by decide) rfl ?_
      refine g_iload_n (n := 3) rfl rfl ?_
      refine g_iaddE (z := 1) (by decide) rfl ?_
      refine g_aload_n (n := 0) rfl rfl ?_
      refine g_getf (v := vR 62) rfl (kl_61 _) rfl ?_
      refine g_bipush (by decide) rfl ?_
      refine g_iload_n (n := 1) rfl rfl ?_
      refine g_imulE (z := 8) (by decide) rfl ?_
      refine g_iload_n (n := 3) rfl rfl ?_
      refine g_iaddE (z := 9) (by decide) rfl ?_
      have h8 : (-2147483648) ≤ m.2.1 62 9 ∧ m.2.1 62 9 ≤ 2147483647 := hm.2 62 9 (by decide) (show (9 : Int) < 48 by decide)
      refine g_ialE (f := up (m.2.1 62) 0 (m.2.1 62 8)) (v := m.2.1 62 9) rfl (kl_62 _) (by decide) (by decide) (by decide) rfl ?_
      refine g_iAst (f := up (m.2.1 62) 0 (m.2.1 62 8)) (m' := (kA (kA m 62 (up (m.2.1 62) 0 (m.2.1 62 8))) 62 (up (up (m.2.1 62) 0 (m.2.1 62 8)) 1 (m.2.1 62 9)))) rfl (kl_62 _) (by decide) (by omega) (by omega) (kA_62 _ _) ?_
      have hm9 : kI (kA (kA m 62 (up (m.2.1 62) 0 (m.2.1 62 8))) 62 (up (up (m.2.1 62) 0 (m.2.1 62 8)) 1 (m.2.1 62 9))) := kI_U hm4 62 rfl (show ((-2147483648) : Int) ≤ m.2.1 62 9 by omega) (show m.2.1 62 9 ≤ (2147483647 : Int) by omega)
      have hf10 : fr [] [62] m (kA (kA m 62 (up (m.2.1 62) 0 (m.2.1 62 8))) 62 (up (up (m.2.1 62) 0 (m.2.1 62 8)) 1 (m.2.1 62 9))) := fr_A hf5 62 _ rfl
      refine g_iincE (z := 2) (by decide) (n := 3) (lo' := [(0, vR 61), (1, vI 1), (2, vI 0)]) rfl rfl rfl ?_
      refine g_goto rfl ?_
      refine g_iload_n (n := 3) rfl rfl ?_
      refine g_bipush (by decide) rfl ?_
      refine g_icmp_ge (by decide) (by decide) (by decide) (by decide) rfl ?_ ?_
      · intro k11
        exfalso; omega
      · intro k12
        refine g_aload_n (n := 0) rfl rfl ?_
        refine g_getf (v := vR 62) rfl (kl_61 _) rfl ?_
        refine g_bipush (by decide) rfl ?_
        refine g_iload_n (n := 2) rfl rfl ?_
        refine g_imulE (z := 0) (by decide) rfl ?_
        refine g_iload_n (n := 3) rfl rfl ?_
        refine g_iaddE (z := 2) (by decide) rfl ?_
        refine g_aload_n (n := 0) rfl rfl ?_
        refine g_getf (v := vR 62) rfl (kl_61 _) rfl ?_
        refine g_bipush (by decide) rfl ?_
        refine g_iload_n (n := 1) rfl rfl ?_
        refine g_imulE (z := 8) (by decide) rfl ?_
        refine g_iload_n (n := 3) rfl rfl ?_
        refine g_iaddE (z := 10) (by decide) rfl ?_
        have h13 : (-2147483648) ≤ m.2.1 62 10 ∧ m.2.1 62 10 ≤ 2147483647 := hm.2 62 10 (by decide) (show (10 : Int) < 48 by decide)
        refine g_ialE (f := up (up (m.2.1 62) 0 (m.2.1 62 8)) 1 (m.2.1 62 9)) (v := m.2.1 62 10) rfl (kl_62 _) (by decide) (by decide) (by decide) rfl ?_
        refine g_iAst (f := up (up (m.2.1 62) 0 (m.2.1 62 8)) 1 (m.2.1 62 9)) (m' := (kA (kA (kA m 62 (up (m.2.1 62) 0 (m.2.1 62 8))) 62 (up (up (m.2.1 62) 0 (m.2.1 62 8)) 1 (m.2.1 62 9))) 62 (up (up (up (m.2.1 62) 0 (m.2.1 62 8)) 1 (m.2.1 62 9)) 2 (m.2.1 62 10)))) rfl (kl_62 _) (by decide) (by omega) (by omega) (kA_62 _ _) ?_
        have hm14 : kI (kA (kA (kA m 62 (up (m.2.1 62) 0 (m.2.1 62 8))) 62 (up (up (m.2.1 62) 0 (m.2.1 62 8)) 1 (m.2.1 62 9))) 62 (up (up (up (m.2.1 62) 0 (m.2.1 62 8)) 1 (m.2.1 62 9)) 2 (m.2.1 62 10))) := kI_U hm9 62 rfl (show ((-2147483648) : Int) ≤ m.2.1 62 10 by omega) (show m.2.1 62 10 ≤ (2147483647 : Int) by omega)
        have hf15 : fr [] [62] m (kA (kA (kA m 62 (up (m.2.1 62) 0 (m.2.1 62 8))) 62 (up (up (m.2.1 62) 0 (m.2.1 62 8)) 1 (m.2.1 62 9))) 62 (up (up (up (m.2.1 62) 0 (m.2.1 62 8)) 1 (m.2.1 62 9)) 2 (m.2.1 62 10))) := fr_A hf10 62 _ rfl
        refine g_iincE (z := 3) (by decide) (n := 3) (lo' := [(0, vR 61), (1, vI 1), (2, vI 0)]) rfl rfl rfl ?_
        refine g_goto rfl ?_
        refine g_iload_n (n := 3) rfl rfl ?_
        refine g_bipush (by decide) rfl ?_
        refine g_icmp_ge (by decide) (by decide) (by decide) (by decide) rfl ?_ ?_
        · intro k16
          exfalso; omega
        · intro k17
          refine g_aload_n (n := 0) rfl rfl ?_
          refine g_getf (v := vR 62) rfl (kl_61 _) rfl ?_
          refine g_bipush (by decide) rfl ?_
          refine g_iload_n (n := 2) rfl rfl ?_
          refine g_imulE (z := 0) (by decide) rfl ?_
          refine g_iload_n (n := 3) rfl rfl ?_
          refine g_iaddE (z := 3) (by decide) rfl ?_
          refine g_aload_n (n := 0) rfl rfl ?_
          refine g_getf (v := vR 62) rfl (kl_61 _) rfl ?_
          refine g_bipush (by decide) rfl ?_
          refine g_iload_n (n := 1) rfl rfl ?_
          refine g_imulE (z := 8) (by decide) rfl ?_
          refine g_iload_n (n := 3) rfl rfl ?_
          refine g_iaddE (z := 11) (by decide) rfl ?_
          have h18 : (-2147483648) ≤ m.2.1 62 11 ∧ m.2.1 62 11 ≤ 2147483647 := hm.2 62 11 (by decide) (show (11 : Int) < 48 by decide)
          refine g_ialE (f := up (up (up (m.2.1 62) 0 (m.2.1 62 8)) 1 (m.2.1 62 9)) 2 (m.2.1 62 10)) (v := m.2.1 62 11) rfl (kl_62 _) (by decide) (by decide) (by decide) rfl ?_
          refine g_iAst (f := up (up (up (m.2.1 62) 0 (m.2.1 62 8)) 1 (m.2.1 62 9)) 2 (m.2.1 62 10)) (m' := (kA (kA (kA (kA m 62 (up (m.2.1 62) 0 (m.2.1 62 8))) 62 (up (up (m.2.1 62) 0 (m.2.1 62 8)) 1 (m.2.1 62 9))) 62 (up (up (up (m.2.1 62) 0 (m.2.1 62 8)) 1 (m.2.1 62 9)) 2 (m.2.1 62 10))) 62 (up (up (up (up (m.2.1 62) 0 (m.2.1 62 8)) 1 (m.2.1 62 9)) 2 (m.2.1 62 10)) 3 (m.2.1 62 11)))) rfl (kl_62 _) (by decide) (by omega) (by omega) (kA_62 _ _) ?_
          have hm19 : kI (kA (kA (kA (kA m 62 (up (m.2.1 62) 0 (m.2.1 62 8))) 62 (up (up (m.2.1 62) 0 (m.2.1 62 8)) 1 (m.2.1 62 9))) 62 (up (up (up (m.2.1 62) 0 (m.2.1 62 8)) 1 (m.2.1 62 9)) 2 (m.2.1 62 10))) 62 (up (up (up (up (m.2.1 62) 0 (m.2.1 62 8)) 1 (m.2.1 62 9)) 2 (m.2.1 62 10)) 3 (m.2.1 62 11))) := kI_U hm14 62 rfl (show ((-2147483648) : Int) ≤ m.2.1 62 11 by omega) (show m.2.1 62 11 ≤ (2147483647 : Int) by omega)
          have hf20 : fr [] [62] m (kA (kA (kA (kA m 62 (up (m.2.1 62) 0 (m.2.1 62 8))) 62 (up (up (m.2.1 62) 0 (m.2.1 62 8)) 1 (m.2.1 62 9))) 62 (up (up (up (m.2.1 62) 0 (m.2.1 62 8)) 1 (m.2.1 62 9)) 2 (m.2.1 62 10))) 62 (up (up (up (up (m.2.1 62) 0 (m.2.1 62 8)) 1 (m.2.1 62 9)) 2 (m.2.1 62 10)) 3 (m.2.1 62 11))) := fr_A hf15 62 _ rfl
          refine g_iincE (z := 4) (by decide) (n := 3) (lo' := [(0, vR 61), (1, vI 1), (2, vI 0)]) rfl rfl rfl ?_
          refine g_goto rfl ?_
          refine g_iload_n (n := 3) rfl rfl ?_
          refine g_bipush (by decide) rfl ?_
          refine g_icmp_ge (by decide) (by decide) (by decide) (by decide) rfl ?_ ?_
          · intro k21
            exfalso; omega
          · intro k22
            refine g_aload_n (n := 0) rfl rfl ?_
            refine g_getf (v := vR 62) rfl (kl_61 _) rfl ?_
            refine g_bipush (by decide) rfl ?_
            refine g_iload_n (n := 2) rfl rfl ?_
            refine g_imulE (z := 0) (by decide) rfl ?_
            refine g_iload_n (n := 3) rfl rfl ?_
            refine g_iaddE (z := 4) (by decide) rfl ?_
            refine g_aload_n (n := 0) rfl rfl ?_
            refine g_getf (v := vR 62) rfl (kl_61 _) rfl ?_
            refine g_bipush (by decide) rfl ?_
            refine g_iload_n (n := 1) rfl rfl ?_
            refine g_imulE (z := 8) (by decide) rfl ?_
            refine g_iload_n (n := 3) rfl rfl ?_
            refine g_iaddE (z := 12) (by decide) rfl ?_
            have h23 : (-2147483648) ≤ m.2.1 62 12 ∧ m.2.1 62 12 ≤ 2147483647 := hm.2 62 12 (by decide) (show (12 : Int) < 48 by decide)
            refine g_ialE (f := up (up (up (up (m.2.1 62) 0 (m.2.1 62 8)) 1 (m.2.1 62 9)) 2 (m.2.1 62 10)) 3 (m.2.1 62 11)) (v := m.2.1 62 12) rfl (kl_62 _) (by decide) (by decide) (by decide) rfl ?_
            refine g_iAst (f := up (up (up (up (m.2.1 62) 0 (m.2.1 62 8)) 1 (m.2.1 62 9)) 2 (m.2.1 62 10)) 3 (m.2.1 62 11)) (m' := (kA (kA (kA (kA (kA m 62 (up (m.2.1 62) 0 (m.2.1 62 8))) 62 (up (up (m.2.1 62) 0 (m.2.1 62 8)) 1 (m.2.1 62 9))) 62 (up (up (up (m.2.1 62) 0 (m.2.1 62 8)) 1 (m.2.1 62 9)) 2 (m.2.1 62 10))) 62 (up (up (up (up (m.2.1 62) 0 (m.2.1 62 8)) 1 (m.2.1 62 9)) 2 (m.2.1 62 10)) 3 (m.2.1 62 11))) 62 (up (up (up (up (up (m.2.1 62) 0 (m.2.1 62 8)) 1 (m.2.1 62 9)) 2 (m.2.1 62 10)) 3 (m.2.1 62 11)) 4 (m.2.1 62 12)))) rfl (kl_62 _) (by decide) (by omega) (by omega) (kA_62 _ _) ?_
            have hm24 : kI (kA (kA (kA (kA (kA m 62 (up (m.2.1 62) 0 (m.2.1 62 8))) 62 (up (up (m.2.1 62) 0 (m.2.1 62 8)) 1 (m.2.1 62 9))) 62 (up (up (up (m.2.1 62) 0 (m.2.1 62 8)) 1 (m.2.1 62 9)) 2 (m.2.1 62 10))) 62 (up (up (up (up (m.2.1 62) 0 (m.2.1 62 8)) 1 (m.2.1 62 9)) 2 (m.2.1 62 10)) 3 (m.2.1 62 11))) 62 (up (up (up (up (up (m.2.1 62) 0 (m.2.1 62 8)) 1 (m.2.1 62 9)) 2 (m.2.1 62 10)) 3 (m.2.1 62 11)) 4 (m.2.1 62 12))) := kI_U hm19 62 rfl (show ((-2147483648) : Int) ≤ m.2.1 62 12 by omega) (show m.2.1 62 12 ≤ (2147483647 : Int) by omega)
            have hf25 : fr [] [62] m (kA (kA (kA (kA (kA m 62 (up (m.2.1 62) 0 (m.2.1 62 8))) 62 (up (up (m.2.1 62) 0 (m.2.1 62 8)) 1 (m.2.1 62 9))) 62 (up (up (up (m.2.1 62) 0 (m.2.1 62 8)) 1 (m.2.1 62 9)) 2 (m.2.1 62 10))) 62 (up (up (up (up (m.2.1 62) 0 (m.2.1 62 8)) 1 (m.2.1 62 9)) 2 (m.2.1 62 10)) 3 (m.2.1 62 11))) 62 (up (up (up (up (up (m.2.1 62) 0 (m.2.1 62 8)) 1 (m.2.1 62 9)) 2 (m.2.1 62 10)) 3 (m.2.1 62 11)) 4 (m.2.1 62 12))) := fr_A hf20 62 _ rfl
            refine g_iincE (z := 5) (by decide) (n := 3) (lo' := [(0, vR 61), (1, vI 1), (2, vI 0)]) rfl rfl rfl ?_
            refine g_goto rfl ?_
            refine g_iload_n (n := 3) rfl rfl ?_
            refine g_bipush (by decide) rfl ?_
            refine g_icmp_ge (by decide) (by decide) (by decide) (by decide) rfl ?_ ?_
            · intro k26
              exfalso; omega
            · intro k27
              refine g_aload_n (n := 0) rfl rfl ?_
              refine g_getf (v := vR 62) rfl (kl_61 _) rfl ?_
              refine g_bipush (by decide) rfl ?_
              refine g_iload_n (n := 2) rfl rfl ?_
              refine g_imulE (z := 0) (by decide) rfl ?_
              refine g_iload_n (n := 3) rfl rfl ?_
              refine g_iaddE (z := 5) (by decide) rfl ?_
              refine g_aload_n (n := 0) rfl rfl ?_
              refine g_getf (v := vR 62) rfl (kl_61 _) rfl ?_
              refine g_bipush (by decide) rfl ?_
              refine g_iload_n (n := 1) rfl rfl ?_
              refine g_imulE (z := 8) (by decide) rfl ?_
              refine g_iload_n (n := 3) rfl rfl ?_
              refine g_iaddE (z := 13) (by decide) rfl ?_
              have h28 : (-2147483648) ≤ m.2.1 62 13 ∧ m.2.1 62 13 ≤ 2147483647 := hm.2 62 13 (by decide) (show (13 : Int) < 48 by decide)
              refine g_ialE (f := up (up (up (up (up (m.2.1 62) 0 (m.2.1 62 8)) 1 (m.2.1 62 9)) 2 (m.2.1 62 10)) 3 (m.2.1 62 11)) 4 (m.2.1 62 12)) (v := m.2.1 62 13) rfl (kl_62 _) (by decide) (by decide) (by decide) rfl ?_
              refine g_iAst (f := up (up (up (up (up (m.2.1 62) 0 (m.2.1 62 8)) 1 (m.2.1 62 9)) 2 (m.2.1 62 10)) 3 (m.2.1 62 11)) 4 (m.2.1 62 12)) (m' := (kA (kA (kA (kA (kA (kA m 62 (up (m.2.1 62) 0 (m.2.1 62 8))) 62 (up (up (m.2.1 62) 0 (m.2.1 62 8)) 1 (m.2.1 62 9))) 62 (up (up (up (m.2.1 62) 0 (m.2.1 62 8)) 1 (m.2.1 62 9)) 2 (m.2.1 62 10))) 62 (up (up (up (up (m.2.1 62) 0 (m.2.1 62 8)) 1 (m.2.1 62 9)) 2 (m.2.1 62 10)) 3 (m.2.1 62 11))) 62 (up (up (up (up (up (m.2.1 62) 0 (m.2.1 62 8)) 1 (m.2.1 62 9)) 2 (m.2.1 62 10)) 3 (m.2.1 62 11)) 4 (m.2.1 62 12))) 62 (up (up (up (up (up (up (m.2.1 62) 0 (m.2.1 62 8)) 1 (m.2.1 62 9)) 2 (m.2.1 62 10)) 3 (m.2.1 62 11)) 4 (m.2.1 62 12)) 5 (m.2.1 62 13)))) rfl (kl_62 _) (by decide) (by omega) (by omega) (kA_62 _ _) ?_
              have hm29 : kI (kA (kA (kA (kA (kA (kA m 62 (up (m.2.1 62) 0 (m.2.1 62 8))) 62 (up (up (m.2.1 62) 0 (m.2.1 62 8)) 1 (m.2.1 62 9))) 62 (up (up (up (m.2.1 62) 0 (m.2.1 62 8)) 1 (m.2.1 62 9)) 2 (m.2.1 62 10))) 62 (up (up (up (up (m.2.1 62) 0 (m.2.1 62 8)) 1 (m.2.1 62 9)) 2 (m.2.1 62 10)) 3 (m.2.1 62 11))) 62 (up (up (up (up (up (m.2.1 62) 0 (m.2.1 62 8)) 1 (m.2.1 62 9)) 2 (m.2.1 62 10)) 3 (m.2.1 62 11)) 4 (m.2.1 62 12))) 62 (up (up (up (up (up (up (m.2.1 62) 0 (m.2.1 62 8)) 1 (m.2.1 62 9)) 2 (m.2.1 62 10)) 3 (m.2.1 62 11)) 4 (m.2.1 62 12)) 5 (m.2.1 62 13))) := kI_U hm24 62 rfl (show ((-2147483648) : Int) ≤ m.2.1 62 13 by omega) (show m.2.1 62 13 ≤ (2147483647 : Int) by omega)
              have hf30 : fr [] [62] m (kA (kA (kA (kA (kA (kA m 62 (up (m.2.1 62) 0 (m.2.1 62 8))) 62 (up (up (m.2.1 62) 0 (m.2.1 62 8)) 1 (m.2.1 62 9))) 62 (up (up (up (m.2.1 62) 0 (m.2.1 62 8)) 1 (m.2.1 62 9)) 2 (m.2.1 62 10))) 62 (up (up (up (up (m.2.1 62) 0 (m.2.1 62 8)) 1 (m.2.1 62 9)) 2 (m.2.1 62 10)) 3 (m.2.1 62 11))) 62 (up (up (up (up (up (m.2.1 62) 0 (m.2.1 62 8)) 1 (m.2.1 62 9)) 2 (m.2.1 62 10)) 3 (m.2.1 62 11)) 4 (m.2.1 62 12))) 62 (up (up (up (up (up (up (m.2.1 62) 0 (m.2.1 62 8)) 1 (m.2.1 62 9)) 2 (m.2.1 62 10)) 3 (m.2.1 62 11)) 4 (m.2.1 62 12)) 5 (m.2.1 62 13))) := fr_A hf25 62 _ rfl
              refine g_iincE (z := 6) (by decide) (n := 3) (lo' := [(0, vR 61), (1, vI 1), (2, vI 0)]) rfl rfl rfl ?_
              refine g_goto rfl ?_
              refine g_iload_n (n := 3) rfl rfl ?_
              refine g_bipush (by decide) rfl ?_
              refine g_icmp_ge (by decide) (by decide) (by decide) (by decide) rfl ?_ ?_
              · intro k31
                exfalso; omega
              · intro k32
                refine g_aload_n (n := 0) rfl rfl ?_
                refine g_getf (v := vR 62) rfl (kl_61 _) rfl ?_
                refine g_bipush (by decide) rfl ?_
                refine g_iload_n (n := 2) rfl rfl ?_
                refine g_imulE (z := 0) (by decide) rfl ?_
                refine g_iload_n (n := 3) rfl rfl ?_
                refine g_iaddE (z := 6) (by decide) rfl ?_
                refine g_aload_n (n := 0) rfl rfl ?_
                refine g_getf (v := vR 62) rfl (kl_61 _) rfl ?_
                refine g_bipush (by decide) rfl ?_
                refine g_iload_n (n := 1) rfl rfl ?_
                refine g_imulE (z := 8) (by decide) rfl ?_
                refine g_iload_n (n := 3) rfl rfl ?_
                refine g_iaddE (z := 14) (by decide) rfl ?_
                have h33 : (-2147483648) ≤ m.2.1 62 14 ∧ m.2.1 62 14 ≤ 2147483647 := hm.2 62 14 (by decide) (show (14 : Int) < 48 by decide)
                refine g_ialE (f := up (up (up (up (up (up (m.2.1 62) 0 (m.2.1 62 8)) 1 (m.2.1 62 9)) 2 (m.2.1 62 10)) 3 (m.2.1 62 11)) 4 (m.2.1 62 12)) 5 (m.2.1 62 13)) (v := m.2.1 62 14) rfl (kl_62 _) (by decide) (by decide) (by decide) rfl ?_
                refine g_iAst (f := up (up (up (up (up (up (m.2.1 62) 0 (m.2.1 62 8)) 1 (m.2.1 62 9)) 2 (m.2.1 62 10)) 3 (m.2.1 62 11)) 4 (m.2.1 62 12)) 5 (m.2.1 62 13)) (m' := (kA (kA (kA (kA (kA (kA (kA m 62 (up (m.2.1 62) 0 (m.2.1 62 8))) 62 (up (up (m.2.1 62) 0 (m.2.1 62 8)) 1 (m.2.1 62 9))) 62 (up (up (up (m.2.1 62) 0 (m.2.1 62 8)) 1 (m.2.1 62 9)) 2 (m.2.1 62 10))) 62 (up (up (up (up (m.2.1 62) 0 (m.2.1 62 8)) 1 (m.2.1 62 9)) 2 (m.2.1 62 10)) 3 (m.2.1 62 11))) 62 (up (up (up (up (up (m.2.1 62) 0 (m.2.1 62 8)) 1 (m.2.1 62 9)) 2 (m.2.1 62 10)) 3 (m.2.1 62 11)) 4 (m.2.1 62 12))) 62 (up (up (up (up (up (up (m.2.1 62) 0 (m.2.1 62 8)) 1 (m.2.1 62 9)) 2 (m.2.1 62 10)) 3 (m.2.1 62 11)) 4 (m.2.1 62 12)) 5 (m.2.1 62 13))) 62 (up (up (up (up (up (up (up (m.2.1 62) 0 (m.2.1 62 8)) 1 (m.2.1 62 9)) 2 (m.2.1 62 10)) 3 (m.2.1 62 11)) 4 (m.2.1 62 12)) 5 (m.2.1 62 13)) 6 (m.2.1 62 14)))) rfl (kl_62 _) (by decide) (by omega) (by omega) (kA_62 _ _) ?_
                have hm34 : kI (kA (kA (kA (kA (kA (kA (kA m 62 (up (m.2.1 62) 0 (m.2.1 62 8))) 62 (up (up (m.2.1 62) 0 (m.2.1 62 8)) 1 (m.2.1 62 9))) 62 (up (up (up (m.2.1 62) 0 (m.2.1 62 8)) 1 (m.2.1 62 9)) 2 (m.2.1 62 10))) 62 (up (up (up (up (m.2.1 62) 0 (m.2.1 62 8)) 1 (m.2.1 62 9)) 2 (m.2.1 62 10)) 3 (m.2.1 62 11))) 62 (up (up (up (up (up (m.2.1 62) 0 (m.2.1 62 8)) 1 (m.2.1 62 9)) 2 (m.2.1 62 10)) 3 (m.2.1 62 11)) 4 (m.2.1 62 12))) 62 (up (up (up (up (up (up (m.2.1 62) 0 (m.2.1 62 8)) 1 (m.2.1 62 9)) 2 (m.2.1 62 10)) 3 (m.2.1 62 11)) 4 (m.2.1 62 12)) 5 (m.2.1 62 13))) 62 (up (up (up (up (up (up (up (m.2.1 62) 0 (m.2.1 62 8)) 1 (m.2.1 62 9)) 2 (m.2.1 62 10)) 3 (m.2.1 62 11)) 4 (m.2.1 62 12)) 5 (m.2.1 62 13)) 6 (m.2.1 62 14))) := kI_U hm29 62 rfl (show ((-2147483648) : Int) ≤ m.2.1 62 14 by omega) (show m.2.1 62 14 ≤ (2147483647 : Int) by omega)
                have hf35 : fr [] [62] m (kA (kA (kA (kA (kA (kA (kA m 62 (up (m.2.1 62) 0 (m.2.1 62 8))) 62 (up (up (m.2.1 62) 0 (m.2.1 62 8)) 1 (m.2.1 62 9))) 62 (up (up (up (m.2.1 62) 0 (m.2.1 62 8)) 1 (m.2.1 62 9)) 2 (m.2.1 62 10))) 62 (up (up (up (up (m.2.1 62) 0 (m.2.1 62 8)) 1 (m.2.1 62 9)) 2 (m.2.1 62 10)) 3 (m.2.1 62 11))) 62 (up (up (up (up (up (m.2.1 62) 0 (m.2.1 62 8)) 1 (m.2.1 62 9)) 2 (m.2.1 62 10)) 3 (m.2.1 62 11)) 4 (m.2.1 62 12))) 62 (up (up (up (up (up (up (m.2.1 62) 0 (m.2.1 62 8)) 1 (m.2.1 62 9)) 2 (m.2.1 62 10)) 3 (m.2.1 62 11)) 4 (m.2.1 62 12)) 5 (m.2.1 62 13))) 62 (up (up (up (up (up (up (up (m.2.1 62) 0 (m.2.1 62 8)) 1 (m.2.1 62 9)) 2 (m.2.1 62 10)) 3 (m.2.1 62 11)) 4 (m.2.1 62 12)) 5 (m.2.1 62 13)) 6 (m.2.1 62 14))) := fr_A hf30 62 _ rfl
                refine g_iincE (z := 7) (by decide) (n := 3) (lo' := [(0, vR 61), (1, vI 1), (2, vI 0)]) rfl rfl rfl ?_
                refine g_goto rfl ?_
                refine g_iload_n (n := 3) rfl rfl ?_
                refine g_bipush (by decide) rfl ?_
                refine g_icmp_ge (by decide) (by decide) (by decide) (by decide) rfl ?_ ?_
                · intro k36
                  exfalso; omega
                · intro k37
                  refine g_aload_n (n := 0) rfl rfl ?_
                  refine g_getf (v := vR 62) rfl (kl_61 _) rfl ?_
                  refine g_bipush (by decide) rfl ?_
                  refine g_iload_n (n := 2) rfl rfl ?_
                  refine g_imulE (z := 0) (by decide) rfl ?_
                  refine g_iload_n (n := 3) rfl rfl ?_
                  refine g_iaddE (z := 7) (by decide) rfl ?_
                  refine g_aload_n (n := 0) rfl rfl ?_
                  refine g_getf (v := vR 62) rfl (kl_61 _) rfl ?_
                  refine g_bipush (by decide) rfl ?_
                  refine g_iload_n (n := 1) rfl rfl ?_
                  refine g_imulE (z := 8) (by decide) rfl ?_
                  refine g_iload_n (n := 3) rfl rfl ?_
                  refine g_iaddE (z := 15) (by decide) rfl ?_
                  have h38 : (-2147483648) ≤ m.2.1 62 15 ∧ m.2.1 62 15 ≤ 2147483647 := hm.2 62 15 (by decide) (show (15 : Int) < 48 by decide)
                  refine g_ialE (f := up (up (up (up (up (up (up (m.2.1 62) 0 (m.2.1 62 8)) 1 (m.2.1 62 9)) 2 (m.2.1 62 10)) 3 (m.2.1 62 11)) 4 (m.2.1 62 12)) 5 (m.2.1 62 13)) 6 (m.2.1 62 14)) (v := m.2.1 62 15) rfl (kl_62 _) (by decide) (by decide) (by decide) rfl ?_
                  refine g_iAst (f := up (up (up (up (up (up (up (m.2.1 62) 0 (m.2.1 62 8)) 1 (m.2.1 62 9)) 2 (m.2.1 62 10)) 3 (m.2.1 62 11)) 4 (m.2.1 62 12)) 5 (m.2.1 62 13)) 6 (m.2.1 62 14)) (m' := (kA (kA (kA (kA (kA (kA (kA (kA m 62 (up (m.2.1 62) 0 (m.2.1 62 8))) 62 (up (up (m.2.1 62) 0 (m.2.1 62 8)) 1 (m.2.1 62 9))) 62 (up (up (up (m.2.1 62) 0 (m.2.1 62 8)) 1 (m.2.1 62 9)) 2 (m.2.1 62 10))) 62 (up (up (up (up (m.2.1 62) 0 (m.2.1 62 8)) 1 (m.2.1 62 9)) 2 (m.2.1 62 10)) 3 (m.2.1 62 11))) 62 (up (up (up (up (up (m.2.1 62) 0 (m.2.1 62 8)) 1 (m.2.1 62 9)) 2 (m.2.1 62 10)) 3 (m.2.1 62 11)) 4 (m.2.1 62 12))) 62 (up (up (up (up (up (up (m.2.1 62) 0 (m.2.1 62 8)) 1 (m.2.1 62 9)) 2 (m.2.1 62 10)) 3 (m.2.1 62 11)) 4 (m.2.1 62 12)) 5 (m.2.1 62 13))) 62 (up (up (up (up (up (up (up (m.2.1 62) 0 (m.2.1 62 8)) 1 (m.2.1 62 9)) 2 (m.2.1 62 10)) 3 (m.2.1 62 11)) 4 (m.2.1 62 12)) 5 (m.2.1 62 13)) 6 (m.2.1 62 14))) 62 (up (up (up (up (up (up (up (up (m.2.1 62) 0 (m.2.1 62 8)) 1 (m.2.1 62 9)) 2 (m.2.1 62 10)) 3 (m.2.1 62 11)) 4 (m.2.1 62 12)) 5 (m.2.1 62 13)) 6 (m.2.1 62 14)) 7 (m.2.1 62 15)))) rfl (kl_62 _) (by decide) (by omega) (by omega) (kA_62 _ _) ?_
                  have hm39 : kI (kA (kA (kA (kA (kA (kA (kA (kA m 62 (up (m.2.1 62) 0 (m.2.1 62 8))) 62 (up (up (m.2.1 62) 0 (m.2.1 62 8)) 1 (m.2.1 62 9))) 62 (up (up (up (m.2.1 62) 0 (m.2.1 62 8)) 1 (m.2.1 62 9)) 2 (m.2.1 62 10))) 62 (up (up (up (up (m.2.1 62) 0 (m.2.1 62 8)) 1 (m.2.1 62 9)) 2 (m.2.1 62 10)) 3 (m.2.1 62 11))) 62 (up (up (up (up (up (m.2.1 62) 0 (m.2.1 62 8)) 1 (m.2.1 62 9)) 2 (m.2.1 62 10)) 3 (m.2.1 62 11)) 4 (m.2.1 62 12))) 62 (up (up (up (up (up (up (m.2.1 62) 0 (m.2.1 62 8)) 1 (m.2.1 62 9)) 2 (m.2.1 62 10)) 3 (m.2.1 62 11)) 4 (m.2.1 62 12)) 5 (m.2.1 62 13))) 62 (up (up (up (up (up (up (up (m.2.1 62) 0 (m.2.1 62 8)) 1 (m.2.1 62 9)) 2 (m.2.1 62 10)) 3 (m.2.1 62 11)) 4 (m.2.1 62 12)) 5 (m.2.1 62 13)) 6 (m.2.1 62 14))) 62 (up (up (up (up (up (up (up (up (m.2.1 62) 0 (m.2.1 62 8)) 1 (m.2.1 62 9)) 2 (m.2.1 62 10)) 3 (m.2.1 62 11)) 4 (m.2.1 62 12)) 5 (m.2.1 62 13)) 6 (m.2.1 62 14)) 7 (m.2.1 62 15))) := kI_U hm34 62 rfl (show ((-2147483648) : Int) ≤ m.2.1 62 15 by omega) (show m.2.1 62 15 ≤ (2147483647 : Int) by omega)
                  have hf40 : fr [] [62] m (kA (kA (kA (kA (kA (kA (kA (kA m 62 (up (m.2.1 62) 0 (m.2.1 62 8))) 62 (up (up (m.2.1 62) 0 (m.2.1 62 8)) 1 (m.2.1 62 9))) 62 (up (up (up (m.2.1 62) 0 (m.2.1 62 8)) 1 (m.2.1 62 9)) 2 (m.2.1 62 10))) 62 (up (up (up (up (m.2.1 62) 0 (m.2.1 62 8)) 1 (m.2.1 62 9)) 2 (m.2.1 62 10)) 3 (m.2.1 62 11))) 62 (up (up (up (up (up (m.2.1 62) 0 (m.2.1 62 8)) 1 (m.2.1 62 9)) 2 (m.2.1 62 10)) 3 (m.2.1 62 11)) 4 (m.2.1 62 12))) 62 (up (up (up (up (up (up (m.2.1 62) 0 (m.2.1 62 8)) 1 (m.2.1 62 9)) 2 (m.2.1 62 10)) 3 (m.2.1 62 11)) 4 (m.2.1 62 12)) 5 (m.2.1 62 13))) 62 (up (up (up (up (up (up (up (m.2.1 62) 0 (m.2.1 62 8)) 1 (m.2.1 62 9)) 2 (m.2.1 62 10)) 3 (m.2.1 62 11)) 4 (m.2.1 62 12)) 5 (m.2.1 62 13)) 6 (m.2.1 62 14))) 62 (up (up (up (up (up (up (up (up (m.2.1 62) 0 (m.2.1 62 8)) 1 (m.2.1 62 9)) 2 (m.2.1 62 10)) 3 (m.2.1 62 11)) 4 (m.2.1 62 12)) 5 (m.2.1 62 13)) 6 (m.2.1 62 14)) 7 (m.2.1 62 15))) := fr_A hf35 62 _ rfl
                  refine g_iincE (z := 8) (by decide) (n := 3) (lo' := [(0, vR 61), (1, vI 1), (2, vI 0)]) rfl rfl rfl ?_
                  refine g_goto rfl ?_
                  refine g_iload_n (n := 3) rfl rfl ?_
                  refine g_bipush (by decide) rfl ?_
                  refine g_icmp_ge (by decide) (by decide) (by decide) (by decide) rfl ?_ ?_
                  · intro k41
                    refine g_vret rfl rfl ?_
                    exact ⟨_, rfl, hm39, hf40, rfl, fun j hj => by show (up (up (up (up (up (up (up (up (m.2.1 62) 0 (m.2.1 62 8)) 1 (m.2.1 62 9)) 2 (m.2.1 62 10)) 3 (m.2.1 62 11)) 4 (m.2.1 62 12)) 5 (m.2.1 62 13)) 6 (m.2.1 62 14)) 7 (m.2.1 62 15)) j = m.2.1 62 j; rw [up_ne _ (by omega), up_ne _ (by omega), up_ne _ (by omega), up_ne _ (by omega), up_ne _ (by omega), up_ne _ (by omega), up_ne _ (by omega), up_ne _ (by omega)]⟩
                  · intro k42
                    exfalso; omega
theorem d_copy_2_0 {V : cg_V} {d q : Nat} (hd : 0 ≤ d) (hq : 0 ≤ q) {m : kM} (hm : kI m) : cg_S V d q mX10_copy [vR 61, vI 2, vI 0] (kl m) (R_V (fun m' => (kI m') ∧ (fr [] [62] m m') ∧ (kr0 (m'.2.1 62) = kr2 (m.2.1 62)) ∧ (∀ j : Int, (j < 0 ∨ 8 ≤ j) → m'.2.1 62 j = m.2.1 62 j))) := by
  have hf0 : fr [] [62] m m := fr_rf m
  refine cg_of (List.mem_of_getElem? (show ae_MT[145]? = some mX10_copy from rfl)) (Nat.le_of_ble_eq_true rfl) ?_
  show cg_G V mX10_copy d q _ 0 [(0, vR 61), (1, vI 2), (2, vI 0)] [] (kl m) 0 0
  refine g_iconst rfl ?_
  refine g_istore_n (n := 3) (lo' := [(0, vR 61), (1, vI 2), (2, vI 0)]) rfl rfl ?_
  refine g_iload_n (n := 3) rfl rfl ?_
  refine g_bipush (by decide) rfl ?_
  refine g_icmp_ge (by decide) (by decide) (by decide) (by decide) rfl ?_ ?_
  · intro k1
    exfalso; omega
  · intro k2
    refine g_aload_n (n := 0) rfl rfl ?_
    refine g_getf (v := vR 62) rfl (kl_61 _) rfl ?_
    refine g_bipush (by decide) rfl ?_
    refine g_iload_n (n := 2) rfl rfl ?_
    refine g_imulE (z := 0) (by decide) rfl ?_
    refine g_iload_n (n := 3) rfl rfl ?_
    refine g_iaddE (z := 0) (by decide) rfl ?_
    refine g_aload_n (n := 0) rfl rfl ?_
    refine g_getf (v := vR 62) rfl (kl_61 _) rfl ?_
    refine g_bipush (by decide) rfl ?_
    refine g_iload_n (n := 1) rfl rfl ?_
    refine g_imulE (z := 16) (by decide) rfl ?_
    refine g_iload_n (n := 3) rfl rfl ?_
    refine g_iaddE (z := 16) (by decide) rfl ?_
    have h3 : (-2147483648) ≤ m.2.1 62 16 ∧ m.2.1 62 16 ≤ 2147483647 := hm.2 62 16 (by decide) (show (16 : Int) < 48 by decide)
    refine g_ialE (f := m.2.1 62) (v := m.2.1 62 16) rfl (kl_62 _) (by decide) (by decide) (by decide) rfl ?_
    refine g_iAst (f := m.2.1 62) (m' := (kA m 62 (up (m.2.1 62) 0 (m.2.1 62 16)))) rfl (kl_62 _) (by decide) (by omega) (by omega) (kA_62 _ _) ?_
    have hm4 : kI (kA m 62 (up (m.2.1 62) 0 (m.2.1 62 16))) := kI_U hm 62 rfl (show ((-2147483648) : Int) ≤ m.2.1 62 16 by omega) (show m.2.1 62 16 ≤ (2147483647 : Int) by omega)
    have hf5 : fr [] [62] m (kA m 62 (up (m.2.1 62) 0 (m.2.1 62 16))) := fr_A hf0 62 _ rfl
    refine g_iincE (z := 1) (by decide) (n := 3) (lo' := [(0, vR 61), (1, vI 2), (2, vI 0)]) rfl rfl rfl ?_
    refine g_goto rfl ?_
    refine g_iload_n (n := 3) rfl rfl ?_
    refine g_bipush (by decide) rfl ?_
    refine g_icmp_ge (by decide) (by decide) (by decide) (by decide) rfl ?_ ?_
    · intro k6
      exfalso; omega
    · intro k7
      refine g_aload_n (n := 0) rfl rfl ?_
      refine g_getf (v := vR 62) rfl (kl_61 _) rfl ?_
      refine g_bipush (by decide) rfl ?_
      refine g_iload_n (n := 2) rfl rfl ?_
      refine g_imulE (z := 0) (by decide) rfl ?_
      refine g_iload_n (n := 3) rfl rfl ?_
      refine g_iaddE (z := 1) (by decide) rfl ?_
      refine g_aload_n (n := 0) rfl rfl ?_
      refine g_getf (v := vR 62) rfl (kl_61 _) rfl ?_
      refine g_bipush (by decide) rfl ?_
      refine g_iload_n (n := 1) rfl rfl ?_
      refine g_imulE (z := 16) (by decide) rfl ?_
      refine g_iload_n (n := 3) rfl rfl ?_
      refine g_iaddE (z := 17) (by decide) rfl ?_
      have h8 : (-2147483648) ≤ m.2.1 62 17 ∧ m.2.1 62 17 ≤ 2147483647 := hm.2 62 17 (by decide) (show (17 : Int) < 48 by decide)
      refine g_ialE (f := up (m.2.1 62) 0 (m.2.1 62 16)) (v := m.2.1 62 17) rfl (kl_62 _) (by decide) (by decide) (by decide) rfl ?_
      refine g_iAst (f := up (m.2.1 62) 0 (m.2.1 62 16)) (m' := (kA (kA m 62 (up (m.2.1 62) 0 (m.2.1 62 16))) 62 (up (up (m.2.1 62) 0 (m.2.1 62 16)) 1 (m.2.1 62 17)))) rfl (kl_62 _) (by decide) (by omega) (by omega) (kA_62 _ _) ?_
      have hm9 : kI (kA (kA m 62 (up (m.2.1 62) 0 (m.2.1 62 16))) 62 (up (up (m.2.1 62) 0 (m.2.1 62 16)) 1 (m.2.1 62 17))) := kI_U hm4 62 rfl (show ((-2147483648) : Int) ≤ m.2.1 62 17 by omega) (show m.2.1 62 17 ≤ (2147483647 : Int) by omega)
      have hf10 : fr [] [62] m (kA (kA m 62 (up (m.2.1 62) 0 (m.2.1 62 16))) 62 (up (up (m.2.1 62) 0 (m.2.1 62 16)) 1 (m.2.1 62 17))) := fr_A hf5 62 _ rfl
      refine g_iincE (z := 2) (by decide) (n := 3) (lo' := [(0, vR 61), (1, vI 2), (2, vI 0)]) rfl rfl rfl ?_
      refine g_goto rfl ?_
      refine g_iload_n (n := 3) rfl rfl ?_
      refine g_bipush (by decide) rfl ?_
      refine g_icmp_ge (by decide) (by decide) (by decide) (by decide) rfl ?_ ?_
      · intro k11
        exfalso; omega
      · intro k12
        refine g_aload_n (n := 0) rfl rfl ?_
        refine g_getf (v := vR 62) rfl (kl_61 _) rfl ?_
        refine g_bipush (by decide) rfl ?_
        refine g_iload_n (n := 2) rfl rfl ?_
        refine g_imulE (z := 0) (by decide) rfl ?_
        refine g_iload_n (n := 3) rfl rfl ?_
        refine g_iaddE (z := 2) (by decide) rfl ?_
        refine g_aload_n (n := 0) rfl rfl ?_
        refine g_getf (v := vR 62) rfl (kl_61 _) rfl ?_
        refine g_bipush (by decide) rfl ?_
        refine g_iload_n (n := 1) rfl rfl ?_
        refine g_imulE (z := 16) (by decide) rfl ?_
        refine g_iload_n (n := 3) rfl rfl ?_
        refine g_iaddE (z := 18) (by decide) rfl ?_
        have h13 : (-2147483648) ≤ m.2.1 62 18 ∧ m.2.1 62 18 ≤ 2147483647 := hm.2 62 18 (by decide) (show (18 : Int) < 48 by decide)
        refine g_ialE (f := up (up (m.2.1 62) 0 (m.2.1 62 16)) 1 (m.2.1 62 17)) (v := m.2.1 62 18) rfl (kl_62 _) (by decide) (by decide) (by decide) rfl ?_
        refine g_iAst (f := up (up (m.2.1 62) 0 (m.2.1 62 16)) 1 (m.2.1 62 17)) (m' := (kA (kA (kA m 62 (up (m.2.1 62) 0 (m.2.1 62 16))) 62 (up (up (m.2.1 62) 0 (m.2.1 62 16)) 1 (m.2.1 62 17))) 62 (up (up (up (m.2.1 62) 0 (m.2.1 62 16)) 1 (m.2.1 62 17)) 2 (m.2.1 62 18)))) rfl (kl_62 _) (by decide) (by omega) (by omega) (kA_62 _ _) ?_
        have hm14 : kI (kA (kA (kA m 62 (up (m.2.1 62) 0 (m.2.1 62 16))) 62 (up (up (m.2.1 62) 0 (m.2.1 62 16)) 1 (m.2.1 62 17))) 62 (up (up (up (m.2.1 62) 0 (m.2.1 62 16)) 1 (m.2.1 62 17)) 2 (m.2.1 62 18))) := kI_U hm9 62 rfl (show ((-2147483648) : Int) ≤ m.2.1 62 18 by omega) (show m.2.1 62 18 ≤ (2147483647 : Int) by omega)
        have hf15 : fr [] [62] m (kA (kA (kA m 62 (up (m.2.1 62) 0 (m.2.1 62 16))) 62 (up (up (m.2.1 62) 0 (m.2.1 62 16)) 1 (m.2.1 62 17))) 62 (up (up (up (m.2.1 62) 0 (m.2.1 62 16)) 1 (m.2.1 62 17)) 2 (m.2.1 62 18))) := fr_A hf10 62 _ rfl
        refine g_iincE (z := 3) (by decide) (n := 3) (lo' := [(0, vR 61), (1, vI 2), (2, vI 0)]) rfl rfl rfl ?_
        refine g_goto rfl ?_
        refine g_iload_n (n := 3) rfl rfl ?_
        refine g_bipush (by decide) rfl ?_
        refine g_icmp_ge (by decide) (by decide) (by decide) (by decide) rfl ?_ ?_
        · intro k16
          exfalso; omega
        · intro k17
          refine g_aload_n (n := 0) rfl rfl ?_
          refine g_getf (v := vR 62) rfl (kl_61 _) rfl ?_
          refine g_bipush (by decide) rfl ?_
          refine g_iload_n (n := 2) rfl rfl ?_
          refine g_imulE (z := 0) (by decide) rfl ?_
          refine g_iload_n (n := 3) rfl rfl ?_
          refine g_iaddE (z := 3) (by decide) rfl ?_
          refine g_aload_n (n := 0) rfl rfl ?_
          refine g_getf (v := vR 62) rfl (kl_61 _) rfl ?_
          refine g_bipush (by decide) rfl ?_
          refine g_iload_n (n := 1) rfl rfl ?_
          refine g_imulE (z := 16) (by decide) rfl ?_
          refine g_iload_n (n := 3) rfl rfl ?_
          refine g_iaddE (z := 19) (by decide) rfl ?_
          have h18 : (-2147483648) ≤ m.2.1 62 19 ∧ m.2.1 62 19 ≤ 2147483647 := hm.2 62 19 (by decide) (show (19 : Int) < 48 by decide)
          refine g_ialE (f := up (up (up (m.2.1 62) 0 (m.2.1 62 16)) 1 (m.2.1 62 17)) 2 (m.2.1 62 18)) (v := m.2.1 62 19) rfl (kl_62 _) (by decide) (by decide) (by decide) rfl ?_
          refine g_iAst (f := up (up (up (m.2.1 62) 0 (m.2.1 62 16)) 1 (m.2.1 62 17)) 2 (m.2.1 62 18)) (m' := (kA (kA (kA (kA m 62 (up (m.2.1 62) 0 (m.2.1 62 16))) 62 (up (up (m.2.1 62) 0 (m.2.1 62 16)) 1 (m.2.1 62 17))) 62 (up (up (up (m.2.1 62) 0 (m.2.1 62 16)) 1 (m.2.1 62 17)) 2 (m.2.1 62 18))) 62 (up (up (up (up (m.2.1 62) 0 (m.2.1 62 16)) 1 (m.2.1 62 17)) 2 (m.2.1 62 18)) 3 (m.2.1 62 19)))) rfl (kl_62 _) (by decide) (by omega) (by omega) (kA_62 _ _) ?_
          have hm19 : kI (kA (kA (kA (kA m 62 (up (m.2.1 62) 0 (m.2.1 62 16))) 62 (up (up (m.2.1 62) 0 (m.2.1 62 16)) 1 (m.2.1 62 17))) 62 (up (up (up (m.2.1 62) 0 (m.2.1 62 16)) 1 (m.2.1 62 17)) 2 (m.2.1 62 18))) 62 (up (up (up (up (m.2.1 62) 0 (m.2.1 62 16)) 1 (m.2.1 62 17)) 2 (m.2.1 62 18)) 3 (m.2.1 62 19))) := kI_U hm14 62 rfl (show ((-2147483648) : Int) ≤ m.2.1 62 19 by omega) (show m.2.1 62 19 ≤ (2147483647 : Int) by omega)
          have hf20 : fr [] [62] m (kA (kA (kA (kA m 62 (up (m.2.1 62) 0 (m.2.1 62 16))) 62 (up (up (m.2.1 62) 0 (m.2.1 62 16)) 1 (m.2.1 62 17))) 62 (up (up (up (m.2.1 62) 0 (m.2.1 62 16)) 1 (m.2.1 62 17)) 2 (m.2.1 62 18))) 62 (up (up (up (up (m.2.1 62) 0 (m.2.1 62 16)) 1 (m.2.1 62 17)) 2 (m.2.1 62 18)) 3 (m.2.1 62 19))) := fr_A hf15 62 _ rfl
          refine g_iincE (z := 4) (by decide) (n := 3) (lo' := [(0, vR 61), (1, vI 2), (2, vI 0)]) rfl rfl rfl ?_
          refine g_goto rfl ?_
          refine g_iload_n (n := 3) rfl rfl ?_
          refine g_bipush (by decide) rfl ?_
          refine g_icmp_ge (by decide) (by decide) (by decide) (by decide) rfl ?_ ?_
          · intro k21
            exfalso; omega
          · intro k22
            refine g_aload_n (n := 0) rfl rfl ?_
            refine g_getf (v := vR 62) rfl (kl_61 _) rfl ?_
            refine g_bipush (by decide) rfl ?_
            refine g_iload_n (n := 2) rfl rfl ?_
            refine g_imulE (z := 0) (by decide) rfl ?_
            refine g_iload_n (n := 3) rfl rfl ?_
            refine g_iaddE (z := 4) (by decide) rfl ?_
            refine g_aload_n (n := 0) rfl rfl ?_
            refine g_getf (v := vR 62) rfl (kl_61 _) rfl ?_
            refine g_bipush (by decide) rfl ?_
            refine g_iload_n (n := 1) rfl rfl ?_
            refine g_imulE (z := 16) (by decide) rfl ?_
            refine g_iload_n (n := 3) rfl rfl ?_
            refine g_iaddE (z := 20) (by decide) rfl ?_
            have h23 : (-2147483648) ≤ m.2.1 62 20 ∧ m.2.1 62 20 ≤ 2147483647 := hm.2 62 20 (by decide) (show (20 : Int) < 48 by decide)
            refine g_ialE (f := up (up (up (up (m.2.1 62) 0 (m.2.1 62 16)) 1 (m.2.1 62 17)) 2 (m.2.1 62 18)) 3 (m.2.1 62 19)) (v := m.2.1 62 20) rfl (kl_62 _) (by decide) (by decide) (by decide) rfl ?_
            refine g_iAst (f := up (up (up (up (m.2.1 62) 0 (m.2.1 62 16)) 1 (m.2.1 62 17)) 2 (m.2.1 62 18)) 3 (m.2.1 62 19)) (m' := (kA (kA (kA (kA (kA m 62 (up (m.2.1 62) 0 (m.2.1 62 16))) 62 (up (up (m.2.1 62) 0 (m.2.1 62 16)) 1 (m.2.1 62 17))) 62 (up (up (up (m.2.1 62) 0 (m.2.1 62 16)) 1 (m.2.1 62 17)) 2 (m.2.1 62 18))) 62 (up (up (up (up (m.2.1 62) 0 (m.2.1 62 16)) 1 (m.2.1 62 17)) 2 (m.2.1 62 18)) 3 (m.2.1 62 19))) 62 (up (up (up (up (up (m.2.1 62) 0 (m.2.1 62 16)) 1 (m.2.1 62 17)) 2 (m.2.1 62 18)) 3 (m.2.1 62 19)) 4 (m.2.1 62 20)))) rfl (kl_62 _) (by decide) (by omega) (by omega) (kA_62 _ _) ?_
            have hm24 : kI (kA (kA (kA (kA (kA m 62 (up (m.2.1 62) 0 (m.2.1 62 16))) 62 (up (up (m.2.1 62) 0 (m.2.1 62 16)) 1 (m.2.1 62 17))) 62 (up (up (up (m.2.1 62) 0 (m.2.1 62 16)) 1 (m.2.1 62 17)) 2 (m.2.1 62 18))) 62 (up (up (up (up (m.2.1 62) 0 (m.2.1 62 16)) 1 (m.2.1 62 17)) 2 (m.2.1 62 18)) 3 (m.2.1 62 19))) 62 (up (up (up (up (up (m.2.1 62) 0 (m.2.1 62 16)) 1 (m.2.1 62 17)) 2 (m.2.1 62 18)) 3 (m.2.1 62 19)) 4 (m.2.1 62 20))) := kI_U hm19 62 rfl (show ((-2147483648) : Int) ≤ m.2.1 62 20 by omega) (show m.2.1 62 20 ≤ (2147483647 : Int) by omega)
            have hf25 : fr [] [62] m (kA (kA (kA (kA (kA m 62 (up (m.2.1 62) 0 (m.2.1 62 16))) 62 (up (up (m.2.1 62) 0 (m.2.1 62 16)) 1 (m.2.1 62 17))) 62 (up (up (up (m.2.1 62) 0 (m.2.1 62 16)) 1 (m.2.1 62 17)) 2 (m.2.1 62 18))) 62 (up (up (up (up (m.2.1 62) 0 (m.2.1 62 16)) 1 (m.2.1 62 17)) 2 (m.2.1 62 18)) 3 (m.2.1 62 19))) 62 (up (up (up (up (up (m.2.1 62) 0 (m.2.1 62 16)) 1 (m.2.1 62 17)) 2 (m.2.1 62 18)) 3 (m.2.1 62 19)) 4 (m.2.1 62 20))) := fr_A hf20 62 _ rfl
            refine g_iincE (z := 5) (by decide) (n := 3) (lo' := [(0, vR 61), (1, vI 2), (2, vI 0)]) rfl rfl rfl ?_
            refine g_goto rfl ?_
            refine g_iload_n (n := 3) rfl rfl ?_
            refine g_bipush (by decide) rfl ?_
            refine g_icmp_ge (by decide) (by decide) (by decide) (by decide) rfl ?_ ?_
            · intro k26
              exfalso; omega
            · intro k27
              refine g_aload_n (n := 0) rfl rfl ?_
              refine g_getf (v := vR 62) rfl (kl_61 _) rfl ?_
              refine g_bipush (by decide) rfl ?_
              refine g_iload_n (n := 2) rfl rfl ?_
              refine g_imulE (z := 0) (by decide) rfl ?_
              refine g_iload_n (n := 3) rfl rfl ?_
              refine g_iaddE (z := 5) (by decide) rfl ?_
              refine g_aload_n (n := 0) rfl rfl ?_
              refine g_getf (v := vR 62) rfl (kl_61 _) rfl ?_
              refine g_bipush (by decide) rfl ?_
              refine g_iload_n (n := 1) rfl rfl ?_
              refine g_imulE (z := 16) (by decide) rfl ?_
              refine g_iload_n (n := 3) rfl rfl ?_
              refine g_iaddE (z := 21) (by decide) rfl ?_
              have h28 : (-2147483648) ≤ m.2.1 62 21 ∧ m.2.1 62 21 ≤ 2147483647 := hm.2 62 21 (by decide) (show (21 : Int) < 48 by decide)
              refine g_ialE (f := up (up (up (up (up (m.2.1 62) 0 (m.2.1 62 16)) 1 (m.2.1 62 17)) 2 (m.2.1 62 18)) 3 (m.2.1 62 19)) 4 (m.2.1 62 20)) (v := m.2.1 62 21) rfl (kl_62 _) (by decide) (by decide) (by decide) rfl ?_
              refine g_iAst (f := up (up (up (up (up (m.2.1 62) 0 (m.2.1 62 16)) 1 (m.2.1 62 17)) 2 (m.2.1 62 18)) 3 (m.2.1 62 19)) 4 (m.2.1 62 20)) (m' := (kA (kA (kA (kA (kA (kA m 62 (up (m.2.1 62) 0 (m.2.1 62 16))) 62 (up (up (m.2.1 62) 0 (m.2.1 62 16)) 1 (m.2.1 62 17))) 62 (up (up (up (m.2.1 62) 0 (m.2.1 62 16)) 1 (m.2.1 62 17)) 2 (m.2.1 62 18))) 62 (up (up (up (up (m.2.1 62) 0 (m.2.1 62 16)) 1 (m.2.1 62 17)) 2 (m.2.1 62 18)) 3 (m.2.1 62 19))) 62 (up (up (up (up (up (m.2.1 62) 0 (m.2.1 62 16)) 1 (m.2.1 62 17)) 2 (m.2.1 62 18)) 3 (m.2.1 62 19)) 4 (m.2.1 62 20))) 62 (up (up (up (up (up (up (m.2.1 62) 0 (m.2.1 62 16)) 1 (m.2.1 62 17)) 2 (m.2.1 62 18)) 3 (m.2.1 62 19)) 4 (m.2.1 62 20)) 5 (m.2.1 62 21)))) rfl (kl_62 _) (by decide) (by omega) (by omega) (kA_62 _ _) ?_
              have hm29 : kI (kA (kA (kA (kA (kA (kA m 62 (up (m.2.1 62) 0 (m.2.1 62 16))) 62 (up (up (m.2.1 62) 0 (m.2.1 62 16)) 1 (m.2.1 62 17))) 62 (up (up (up (m.2.1 62) 0 (m.2.1 62 16)) 1 (m.2.1 62 17)) 2 (m.2.1 62 18))) 62 (up (up (up (up (m.2.1 62) 0 (m.2.1 62 16)) 1 (m.2.1 62 17)) 2 (m.2.1 62 18)) 3 (m.2.1 62 19))) 62 (up (up (up (up (up (m.2.1 62) 0 (m.2.1 62 16)) 1 (m.2.1 62 17)) 2 (m.2.1 62 18)) 3 (m.2.1 62 19)) 4 (m.2.1 62 20))) 62 (up (up (up (up (up (up (m.2.1 62) 0 (m.2.1 62 16)) 1 (m.2.1 62 17)) 2 (m.2.1 62 18)) 3 (m.2.1 62 19)) 4 (m.2.1 62 20)) 5 (m.2.1 62 21))) := kI_U hm24 62 rfl (show ((-2147483648) : Int) ≤ m.2.1 62 21 by omega) (show m.2.1 62 21 ≤ (2147483647 : Int) by omega)
              have hf30 : fr [] [62] m (kA (kA (kA (kA (kA (kA m 62 (up (m.2.1 62) 0 (m.2.1 62 16))) 62 (up (up (m.2.1 62) 0 (m.2.1 62 16)) 1 (m.2.1 62 17))) 62 (up (up (up (m.2.1 62) 0 (m.2.1 62 16)) 1 (m.2.1 62 17)) 2 (m.2.1 62 18))) 62 (up (up (up (up (m.2.1 62) 0 (m.2.1 62 16)) 1 (m.2.1 62 17)) 2 (m.2.1 62 18)) 3 (m.2.1 62 19))) 62 (up (up (up (up (up (m.2.1 62) 0 (m.2.1 62 16)) 1 (m.2.1 62 17)) 2 (m.2.1 62 18)) 3 (m.2.1 62 19)) 4 (m.2.1 62 20))) 62 (up (up (up (up (up (up (m.2.1 62) 0 (m.2.1 62 16)) 1 (m.2.1 62 17)) 2 (m.2.1 62 18)) 3 (m.2.1 62 19)) 4 (m.2.1 62 20)) 5 (m.2.1 62 21))) := fr_A hf25 62 _ rfl
              refine g_iincE (z := 6) (by decide) (n := 3) (lo' := [(0, vR 61), (1, vI 2), (2, vI 0)]) rfl rfl rfl ?_
              refine g_goto rfl ?_
              refine g_iload_n (n := 3) rfl rfl ?_
              refine g_bipush (by decide) rfl ?_
              refine g_icmp_ge (by decide) (by decide) (by decide) (by decide) rfl ?_ ?_
              · intro k31
                exfalso; omega
              · intro k32
                refine g_aload_n (n := 0) rfl rfl ?_
                refine g_getf (v := vR 62) rfl (kl_61 _) rfl ?_
                refine g_bipush (by decide) rfl ?_
                refine g_iload_n (n := 2) rfl rfl ?_
                refine g_imulE (z := 0) (by decide) rfl ?_
                refine g_iload_n (n := 3) rfl rfl ?_
                refine g_iaddE (z := 6) (by decide) rfl ?_
                refine g_aload_n (n := 0) rfl rfl ?_
                refine g_getf (v := vR 62) rfl (kl_61 _) rfl ?_
                refine g_bipush (by decide) rfl ?_
                refine g_iload_n (n := 1) rfl rfl ?_
                refine g_imulE (z := 16) (by decide) rfl ?_
                refine g_iload_n (n := 3) rfl rfl ?_
                refine g_iaddE (z := 22) (by decide) rfl ?_
                have h33 : (-2147483648) ≤ m.2.1 62 22 ∧ m.2.1 62 22 ≤ 2147483647 := hm.2 62 22 (by decide) (show (22 : Int) < 48 by decide)
                refine g_ialE (f := up (up (up (up (up (up (m.2.1 62) 0 (m.2.1 62 16)) 1 (m.2.1 62 17)) 2 (m.2.1 62 18)) 3 (m.2.1 62 19)) 4 (m.2.1 62 20)) 5 (m.2.1 62 21)) (v := m.2.1 62 22) rfl (kl_62 _) (by decide) (by decide) (by decide) rfl ?_
                refine g_iAst (f := up (up (up (up (up (up (m.2.1 62) 0 (m.2.1 62 16)) 1 (m.2.1 62 17)) 2 (m.2.1 62 18)) 3 (m.2.1 62 19)) 4 (m.2.1 62 20)) 5 (m.2.1 62 21)) (m' := (kA (kA (kA (kA (kA (kA (kA m 62 (up (m.2.1 62) 0 (m.2.1 62 16))) 62 (up (up (m.2.1 62) 0 (m.2.1 62 16)) 1 (m.2.1 62 17))) 62 (up (up (up (m.2.1 62) 0 (m.2.1 62 16)) 1 (m.2.1 62 17)) 2 (m.2.1 62 18))) 62 (up (up (up (up (m.2.1 62) 0 (m.2.1 62 16)) 1 (m.2.1 62 17)) 2 (m.2.1 62 18)) 3 (m.2.1 62 19))) 62 (up (up (up (up (up (m.2.1 62) 0 (m.2.1 62 16)) 1 (m.2.1 62 17)) 2 (m.2.1 62 18)) 3 (m.2.1 62 19)) 4 (m.2.1 62 20))) 62 (up (up (up (up (up (up (m.2.1 62) 0 (m.2.1 62 16)) 1 (m.2.1 62 17)) 2 (m.2.1 62 18)) 3 (m.2.1 62 19)) 4 (m.2.1 62 20)) 5 (m.2.1 62 21))) 62 (up (up (up (up (up (up (up (m.2.1 62) 0 (m.2.1 62 16)) 1 (m.2.1 62 17)) 2 (m.2.1 62 18)) 3 (m.2.1 62 19)) 4 (m.2.1 62 20)) 5 (m.2.1 62 21)) 6 (m.2.1 62 22)))) rfl (kl_62 _) (by decide) (by omega) (by omega) (kA_62 _ _) ?_
                have hm34 : kI (kA (kA (kA (kA (kA (kA (kA m 62 (up (m.2.1 62) 0 (m.2.1 62 16))) 62 (up (up (m.2.1 62) 0 (m.2.1 62 16)) 1 (m.2.1 62 17))) 62 (up (up (up (m.2.1 62) 0 (m.2.1 62 16)) 1 (m.2.1 62 17)) 2 (m.2.1 62 18))) 62 (up (up (up (up (m.2.1 62) 0 (m.2.1 62 16)) 1 (m.2.1 62 17)) 2 (m.2.1 62 18)) 3 (m.2.1 62 19))) 62 (up (up (up (up (up (m.2.1 62) 0 (m.2.1 62 16)) 1 (m.2.1 62 17)) 2 (m.2.1 62 18)) 3 (m.2.1 62 19)) 4 (m.2.1 62 20))) 62 (up (up (up (up (up (up (m.2.1 62) 0 (m.2.1 62 16)) 1 (m.2.1 62 17)) 2 (m.2.1 62 18)) 3 (m.2.1 62 19)) 4 (m.2.1 62 20)) 5 (m.2.1 62 21))) 62 (up (up (up (up (up (up (up (m.2.1 62) 0 (m.2.1 62 16)) 1 (m.2.1 62 17)) 2 (m.2.1 62 18)) 3 (m.2.1 62 19)) 4 (m.2.1 62 20)) 5 (m.2.1 62 21)) 6 (m.2.1 62 22))) := kI_U hm29 62 rfl (show ((-2147483648) : Int) ≤ m.2.1 62 22 by omega) (show m.2.1 62 22 ≤ (2147483647 : Int) by omega)
                have hf35 : fr [] [62] m (kA (kA (kA (kA (kA (kA (kA m 62 (up (m.2.1 62) 0 (m.2.1 62 16))) 62 (up (up (m.2.1 62) 0 (m.2.1 62 16)) 1 (m.2.1 62 17))) 62 (up (up (up (m.2.1 62) 0 (m.2.1 62 16)) 1 (m.2.1 62 17)) 2 (m.2.1 62 18))) 62 (up (up (up (up (m.2.1 62) 0 (m.2.1 62 16)) 1 (m.2.1 62 17)) 2 (m.2.1 62 18)) 3 (m.2.1 62 19))) 62 (up (up (up (up (up (m.2.1 62) 0 (m.2.1 62 16)) 1 (m.2.1 62 17)) 2 (m.2.1 62 18)) 3 (m.2.1 62 19)) 4 (m.2.1 62 20))) 62 (up (up (up (up (up (up (m.2.1 62) 0 (m.2.1 62 16)) 1 (m.2.1 62 17)) 2 (m.2.1 62 18)) 3 (m.2.1 62 19)) 4 (m.2.1 62 20)) 5 (m.2.1 62 21))) 62 (up (up (up (up (up (up (up (m.2.1 62) 0 (m.2.1 62 16)) 1 (m.2.1 62 17)) 2 (m.2.1 62 18)) 3 (m.2.1 62 19)) 4 (m.2.1 62 20)) 5 (m.2.1 62 21)) 6 (m.2.1 62 22))) := fr_A hf30 62 _ rfl
                refine g_iincE (z := 7) (by decide) (n := 3) (lo' := [(0, vR 61), (1, vI 2), (2, vI 0)]) rfl rfl rfl ?_
                refine g_goto rfl ?_
                refine g_iload_n (n := 3) rfl rfl ?_
                refine g_bipush (by decide) rfl ?_
                refine g_icmp_ge (by decide) (by decide) (by decide) (by decide) rfl ?_ ?_
                · intro k36
                  exfalso; omega
                · intro k37
                  refine g_aload_n (n := 0) rfl rfl ?_
                  refine g_getf (v := vR 62) rfl (kl_61 _) rfl ?_
                  refine g_bipush (by decide) rfl ?_
                  refine g_iload_n (n := 2) rfl rfl ?_
                  refine g_imulE (z := 0) (by decide) rfl ?_
                  refine g_iload_n (n := 3) rfl rfl ?_
                  refine g_iaddE (z := 7) (by decide) rfl ?_
                  refine g_aload_n (n := 0) rfl rfl ?_
                  refine g_getf (v := vR 62) rfl (kl_61 _) rfl ?_
                  refine g_bipush (by decide) rfl ?_
                  refine g_iload_n (n := 1) rfl rfl ?_
                  refine g_imulE (z := 16) (by decide) rfl ?_
                  refine g_iload_n (n := 3) rfl rfl ?_
                  refine g_iaddE (z := 23) (by decide) rfl ?_
                  have h38 : (-2147483648) ≤ m.2.1 62 23 ∧ m.2.1 62 23 ≤ 2147483647 := hm.2 62 23 (by decide) (show (23 : Int) < 48 by decide)
                  refine g_ialE (f := up (up (up (up (up (up (up (m.2.1 62) 0 (m.2.1 62 16)) 1 (m.2.1 62 17)) 2 (m.2.1 62 18)) 3 (m.2.1 62 19)) 4 (m.2.1 62 20)) 5 (m.2.1 62 21)) 6 (m.2.1 62 22)) (v := m.2.1 62 23) rfl (kl_62 _) (by decide) (by decide) (by decide) rfl ?_
                  refine g_iAst (f := up (up (up (up (up (up (up (m.2.1 62) 0 (m.2.1 62 16)) 1 (m.2.1 62 17)) 2 (m.2.1 62 18)) 3 (m.2.1 62 19)) 4 (m.2.1 62 20)) 5 (m.2.1 62 21)) 6 (m.2.1 62 22)) (m' := (kA (kA (kA (kA (kA (kA (kA (kA m 62 (up (m.2.1 62) 0 (m.2.1 62 16))) 62 (up (up (m.2.1 62) 0 (m.2.1 62 16)) 1 (m.2.1 62 17))) 62 (up (up (up (m.2.1 62) 0 (m.2.1 62 16)) 1 (m.2.1 62 17)) 2 (m.2.1 62 18))) 62 (up (up (up (up (m.2.1 62) 0 (m.2.1 62 16)) 1 (m.2.1 62 17)) 2 (m.2.1 62 18)) 3 (m.2.1 62 19))) 62 (up (up (up (up (up (m.2.1 62) 0 (m.2.1 62 16)) 1 (m.2.1 62 17)) 2 (m.2.1 62 18)) 3 (m.2.1 62 19)) 4 (m.2.1 62 20))) 62 (up (up (up (up (up (up (m.2.1 62) 0 (m.2.1 62 16)) 1 (m.2.1 62 17)) 2 (m.2.1 62 18)) 3 (m.2.1 62 19)) 4 (m.2.1 62 20)) 5 (m.2.1 62 21))) 62 (up (up (up (up (up (up (up (m.2.1 62) 0 (m.2.1 62 16)) 1 (m.2.1 62 17)) 2 (m.2.1 62 18)) 3 (m.2.1 62 19)) 4 (m.2.1 62 20)) 5 (m.2.1 62 21)) 6 (m.2.1 62 22))) 62 (up (up (up (up (up (up (up (up (m.2.1 62) 0 (m.2.1 62 16)) 1 (m.2.1 62 17)) 2 (m.2.1 62 18)) 3 (m.2.1 62 19)) 4 (m.2.1 62 20)) 5 (m.2.1 62 21)) 6 (m.2.1 62 22)) 7 (m.2.1 62 23)))) rfl (kl_62 _) (by decide) (by omega) (by omega) (kA_62 _ _) ?_
                  have hm39 : kI (kA (kA (kA (kA (kA (kA (kA (kA m 62 (up (m.2.1 62) 0 (m.2.1 62 16))) 62 (up (up (m.2.1 62) 0 (m.2.1 62 16)) 1 (m.2.1 62 17))) 62 (up (up (up (m.2.1 62) 0 (m.2.1 62 16)) 1 (m.2.1 62 17)) 2 (m.2.1 62 18))) 62 (up (up (up (up (m.2.1 62) 0 (m.2.1 62 16)) 1 (m.2.1 62 17)) 2 (m.2.1 62 18)) 3 (m.2.1 62 19))) 62 (up (up (up (up (up (m.2.1 62) 0 (m.2.1 62 16)) 1 (m.2.1 62 17)) 2 (m.2.1 62 18)) 3 (m.2.1 62 19)) 4 (m.2.1 62 20))) 62 (up (up (up (up (up (up (m.2.1 62) 0 (m.2.1 62 16)) 1 (m.2.1 62 17)) 2 (m.2.1 62 18)) 3 (m.2.1 62 19)) 4 (m.2.1 62 20)) 5 (m.2.1 62 21))) 62 (up (up (up (up (up (up (up (m.2.1 62) 0 (m.2.1 62 16)) 1 (m.2.1 62 17)) 2 (m.2.1 62 18)) 3 (m.2.1 62 19)) 4 (m.2.1 62 20)) 5 (m.2.1 62 21)) 6 (m.2.1 62 22))) 62 (up (up (up (up (up (up (up (up (m.2.1 62) 0 (m.2.1 62 16)) 1 (m.2.1 62 17)) 2 (m.2.1 62 18)) 3 (m.2.1 62 19)) 4 (m.2.1 62 20)) 5 (m.2.1 62 21)) 6 (m.2.1 62 22)) 7 (m.2.1 62 23))) := kI_U hm34 62 rfl (show ((-2147483648) : Int) ≤ m.2.1 62 23 by omega) (show m.2.1 62 23 ≤ (2147483647 : Int) by omega)
                  have hf40 : fr [] [62] m (kA (kA (kA (kA (kA (kA (kA (kA m 62 (up (m.2.1 62) 0 (m.2.1 62 16))) 62 (up (up (m.2.1 62) 0 (m.2.1 62 16)) 1 (m.2.1 62 17))) 62 (up (up (up (m.2.1 62) 0 (m.2.1 62 16)) 1 (m.2.1 62 17)) 2 (m.2.1 62 18))) 62 (up (up (up (up (m.2.1 62) 0 (m.2.1 62 16)) 1 (m.2.1 62 17)) 2 (m.2.1 62 18)) 3 (m.2.1 62 19))) 62 (up (up (up (up (up (m.2.1 62) 0 (m.2.1 62 16)) 1 (m.2.1 62 17)) 2 (m.2.1 62 18)) 3 (m.2.1 62 19)) 4 (m.2.1 62 20))) 62 (up (up (up (up (up (up (m.2.1 62) 0 (m.2.1 62 16)) 1 (m.2.1 62 17)) 2 (m.2.1 62 18)) 3 (m.2.1 62 19)) 4 (m.2.1 62 20)) 5 (m.2.1 62 21))) 62 (up (up (up (up (up (up (up (m.2.1 62) 0 (m.2.1 62 16)) 1 (m.2.1 62 17)) 2 (m.2.1 62 18)) 3 (m.2.1 62 19)) 4 (m.2.1 62 20)) 5 (m.2.1 62 21)) 6 (m.2.1 62 22))) 62 (up (up (up (up (up (up (up (up (m.2.1 62) 0 (m.2.1 62 16)) 1 (m.2.1 62 17)) 2 (m.2.1 62 18)) 3 (m.2.1 62 19)) 4 (m.2.1 62 20)) 5 (m.2.1 62 21)) 6 (m.2.1 62 22)) 7 (m.2.1 62 23))) := fr_A hf35 62 _ rfl
                  refine g_iincE (z := 8) (by decide) (n := 3) (lo' := [(0, vR 61), (1, vI 2), (2, vI 0)]) rfl rfl rfl ?_
                  refine g_goto rfl ?_
                  refine g_iload_n (n := 3) rfl rfl ?_
                  refine g_bipush (by decide) rfl ?_
                  refine g_icmp_ge (by decide) (by decide) (by decide) (by decide) rfl ?_ ?_
                  · intro k41
                    refine g_vret rfl rfl ?_
                    exact ⟨_, rfl, hm39, hf40, rfl, fun j hj => by show (up (up (up (up (up (up (up (up (m.2.1 62) 0 (m.2.1 62 16)) 1 (m.2.1 62 17)) 2 (m.2.1 62 18)) 3 (m.2.1 62 19)) 4 (m.2.1 62 20)) 5 (m.2.1 62 21)) 6 (m.2.1 62 22)) 7 (m.2.1 62 23)) j = m.2.1 62 j; rw [up_ne _ (by omega), up_ne _ (by omega), up_ne _ (by omega), up_ne _ (by omega), up_ne _ (by omega), up_ne _ (by omega), up_ne _ (by omega), up_ne _ (by omega)]⟩
                  · intro k42
                    exfalso; omega
theorem d_layStanding {V : cg_V} {d q : Nat} (hd : 2 ≤ d) (hq : 45 ≤ q) {m : kM} (hm : kI m) {n : Int} (h_n : 0 ≤ n ∧ n ≤ 64511) : cg_S V d q mX10_layStanding [vR 61, vI n, vI 3] (kl m) (R_V (fun m' => (kI m') ∧ (fr [] [62] m m') ∧ (kr3 (m'.2.1 62) = unn (m.1 28) n) ∧ (∀ j : Int, (j < 24 ∨ 31 ≤ j) → m'.2.1 62 j = m.2.1 62 j))) := by
  have hf0 : fr [] [62] m m := fr_rf m
  refine cg_of (List.mem_of_getElem? (show ae_MT[158]? = some mX10_layStanding from rfl)) (Nat.le_of_ble_eq_true rfl) ?_
  show cg_G V mX10_layStanding d q _ 0 [(0, vR 61), (1, vI n), (2, vI 3)] [] (kl m) 0 0
  have h1 : 0 ≤ m.1 28 ∧ m.1 28 ≤ 63 := hm.1 28
  refine g_bipush (by decide) rfl ?_
  refine g_iload_n (n := 2) rfl rfl ?_
  refine g_imulE (z := 24) (by decide) rfl ?_
  refine g_istore_n (n := 3) (lo' := [(0, vR 61), (1, vI n), (2, vI 3)]) rfl rfl ?_
  refine g_iload_n (n := 1) rfl rfl ?_
  refine g_bipush (by decide) rfl ?_
  refine g_idivC (by omega) (by omega) (by decide) (by decide) rfl ?_
  intro z2 h3
  refine g_bipush (by decide) rfl ?_
  refine g_iremC (by omega) (by omega) (by decide) (by decide) rfl ?_
  intro z4 h5
  refine g_istore (n := 4) (lo' := [(3, vI 24), (0, vR 61), (1, vI n), (2, vI 3)]) rfl rfl ?_
  refine g_iload (n := 4) rfl rfl ?_
  refine g_bipush (by decide) rfl ?_
  refine g_icmp_ge (by omega) (by omega) (by decide) (by decide) rfl ?_ ?_
  · intro k6
    refine g_iconst rfl ?_
    refine g_istore (n := 5) (lo' := [(4, vI z4), (3, vI 24), (0, vR 61), (1, vI n), (2, vI 3)]) rfl rfl ?_
    refine g_aload_n (n := 0) rfl rfl ?_
    refine g_getf (v := vR 62) rfl (kl_61 _) rfl ?_
    refine g_iload_n (n := 3) rfl rfl ?_
    refine g_bipush (by decide) rfl ?_
    refine g_iaddE (z := 30) (by decide) rfl ?_
    refine g_iload_n (n := 1) rfl rfl ?_
    refine g_iconst rfl ?_
    refine g_iremC (by omega) (by omega) (by decide) (by decide) rfl ?_
    intro z7 h8
    refine g_iAst (f := m.2.1 62) (m' := (kA m 62 (up (m.2.1 62) 30 z7))) rfl (kl_62 _) (by decide) (by omega) (by omega) (kA_62 _ _) ?_
    have hm9 : kI (kA m 62 (up (m.2.1 62) 30 z7)) := kI_U hm 62 rfl (show ((-2147483648) : Int) ≤ z7 by omega) (show z7 ≤ (2147483647 : Int) by omega)
    have hf10 : fr [] [62] m (kA m 62 (up (m.2.1 62) 30 z7)) := fr_A hf0 62 _ rfl
    refine g_aload_n (n := 0) rfl rfl ?_
    refine g_getf (v := vR 62) rfl (kl_61 _) rfl ?_
    refine g_iload_n (n := 3) rfl rfl ?_
    refine g_iconst rfl ?_
    refine g_iaddE (z := 29) (by decide) rfl ?_
    refine g_aload_n (n := 0) rfl rfl ?_
    refine g_iload_n (n := 1) rfl rfl ?_
    refine g_iconst rfl ?_
    refine g_idivC (by omega) (by omega) (by decide) (by decide) rfl ?_
    intro z11 h12
    refine g_bipush (by decide) rfl ?_
    refine g_iremC (by omega) (by omega) (by decide) (by decide) rfl ?_
    intro z13 h14
    have h15 : (kA m 62 (up (m.2.1 62) 30 z7)).1 28 = m.1 28 := rfl
    refine c_vI (i := 61) (ps := [vI z13]) (r := [vI 29, vR 62]) (as := [vR 61, vI z13]) (cs' := 0) (sl' := 0) rfl rfl rfl rfl rfl rfl (kl_61 _) (d_hungryOf (d := d - 1) (q := q - (5 + 19)) (by omega) (by omega) hm9 (u := z13) (show 0 ≤ z13 ∧ z13 ≤ 15 by omega)) (by omega) (show 5 + 19 ≤ q by omega) (Nat.le_of_ble_eq_true rfl) (Nat.le_of_ble_eq_true rfl) rfl rfl rfl ?_
    rintro z16 m17 ⟨rfl, p19, p20, p21⟩
    have h22 : z16 = (HO (m.1 28) z13 6) := p19
    subst h22
    refine g_iAst (f := up (m.2.1 62) 30 z7) (m' := (kA (kA m 62 (up (m.2.1 62) 30 z7)) 62 (up (up (m.2.1 62) 30 z7) 29 (HO (m.1 28) z13 6)))) rfl (kl_62 _) (by decide) (by omega) (by omega) (kA_62 _ _) ?_
    have hm23 : kI (kA (kA m 62 (up (m.2.1 62) 30 z7)) 62 (up (up (m.2.1 62) 30 z7) 29 (HO (m.1 28) z13 6))) := kI_U hm9 62 rfl (show ((-2147483648) : Int) ≤ (HO (m.1 28) z13 6) by omega) (show (HO (m.1 28) z13 6) ≤ (2147483647 : Int) by omega)
    have hf24 : fr [] [62] m (kA (kA m 62 (up (m.2.1 62) 30 z7)) 62 (up (up (m.2.1 62) 30 z7) 29 (HO (m.1 28) z13 6))) := fr_A hf10 62 _ rfl
    refine g_aload_n (n := 0) rfl rfl ?_
    refine g_getf (v := vR 62) rfl (kl_61 _) rfl ?_
    refine g_iload_n (n := 3) rfl rfl ?_
    refine g_iconst rfl ?_
    refine g_iaddE (z := 26) (by decide) rfl ?_
    refine g_iload (n := 5) rfl rfl ?_
    refine g_if_eq (by decide) (by decide) rfl ?_ ?_
    · intro k25
      refine g_iload (n := 4) rfl rfl ?_
      refine g_bipush (by decide) rfl ?_
      refine g_icmp_ge (by omega) (by omega) (by decide) (by decide) rfl ?_ ?_
      · intro k26
        refine g_iload (n := 4) rfl rfl ?_
        refine g_bipush (by decide) rfl ?_
        refine g_isub rfl ?_
        refine g_iAst (f := up (up (m.2.1 62) 30 z7) 29 (HO (m.1 28) z13 6)) (m' := (kA (kA (kA m 62 (up (m.2.1 62) 30 z7)) 62 (up (up (m.2.1 62) 30 z7) 29 (HO (m.1 28) z13 6))) 62 (up (up (up (m.2.1 62) 30 z7) 29 (HO (m.1 28) z13 6)) 26 (z4 - 26)))) rfl (kl_62 _) (by decide) (by omega) (by omega) (kA_62 _ _) ?_
        have hm27 : kI (kA (kA (kA m 62 (up (m.2.1 62) 30 z7)) 62 (up (up (m.2.1 62) 30 z7) 29 (HO (m.1 28) z13 6))) 62 (up (up (up (m.2.1 62) 30 z7) 29 (HO (m.1 28) z13 6)) 26 (z4 - 26))) := kI_U hm23 62 rfl (show ((-2147483648) : Int) ≤ (z4 - 26) by omega) (show (z4 - 26) ≤ (2147483647 : Int) by omega)
        have hf28 : fr [] [62] m (kA (kA (kA m 62 (up (m.2.1 62) 30 z7)) 62 (up (up (m.2.1 62) 30 z7) 29 (HO (m.1 28) z13 6))) 62 (up (up (up (m.2.1 62) 30 z7) 29 (HO (m.1 28) z13 6)) 26 (z4 - 26))) := fr_A hf24 62 _ rfl
        refine g_aload_n (n := 0) rfl rfl ?_
        refine g_getf (v := vR 62) rfl (kl_61 _) rfl ?_
        refine g_iload_n (n := 3) rfl rfl ?_
        refine g_iconst rfl ?_
        refine g_iaddE (z := 26) (by decide) rfl ?_
        refine g_iconst rfl ?_
        refine g_iaddE (z := 27) (by decide) rfl ?_
        refine g_iload (n := 5) rfl rfl ?_
        refine g_if_eq (by decide) (by decide) rfl ?_ ?_
        · intro k29
          refine g_iload (n := 4) rfl rfl ?_
          refine g_bipush (by decide) rfl ?_
          refine g_icmp_ge (by omega) (by omega) (by decide) (by decide) rfl ?_ ?_
          · intro k30
            refine g_iconst rfl ?_
            refine g_iAst (f := up (up (up (m.2.1 62) 30 z7) 29 (HO (m.1 28) z13 6)) 26 (z4 - 26)) (m' := (kA (kA (kA (kA m 62 (up (m.2.1 62) 30 z7)) 62 (up (up (m.2.1 62) 30 z7) 29 (HO (m.1 28) z13 6))) 62 (up (up (up (m.2.1 62) 30 z7) 29 (HO (m.1 28) z13 6)) 26 (z4 - 26))) 62 (up (up (up (up (m.2.1 62) 30 z7) 29 (HO (m.1 28) z13 6)) 26 (z4 - 26)) 27 2))) rfl (kl_62 _) (by decide) (by omega) (by omega) (kA_62 _ _) ?_
            have hm31 : kI (kA (kA (kA (kA m 62 (up (m.2.1 62) 30 z7)) 62 (up (up (m.2.1 62) 30 z7) 29 (HO (m.1 28) z13 6))) 62 (up (up (up (m.2.1 62) 30 z7) 29 (HO (m.1 28) z13 6)) 26 (z4 - 26))) 62 (up (up (up (up (m.2.1 62) 30 z7) 29 (HO (m.1 28) z13 6)) 26 (z4 - 26)) 27 2)) := kI_U hm27 62 rfl (show ((-2147483648) : Int) ≤ 2 by omega) (show 2 ≤ (2147483647 : Int) by omega)
            have hf32 : fr [] [62] m (kA (kA (kA (kA m 62 (up (m.2.1 62) 30 z7)) 62 (up (up (m.2.1 62) 30 z7) 29 (HO (m.1 28) z13 6))) 62 (up (up (up (m.2.1 62) 30 z7) 29 (HO (m.1 28) z13 6)) 26 (z4 - 26))) 62 (up (up (up (up (m.2.1 62) 30 z7) 29 (HO (m.1 28) z13 6)) 26 (z4 - 26)) 27 2)) := fr_A hf28 62 _ rfl
            refine g_aload_n (n := 0) rfl rfl ?_
            refine g_getf (v := vR 62) rfl (kl_61 _) rfl ?_
            refine g_iload_n (n := 3) rfl rfl ?_
            refine g_iconst rfl ?_
            refine g_iaddE (z := 28) (by decide) rfl ?_
            refine g_iload (n := 5) rfl rfl ?_
            refine g_if_eq (by decide) (by decide) rfl ?_ ?_
            · intro k33
              refine g_iconst rfl ?_
              refine g_iAst (f := up (up (up (up (m.2.1 62) 30 z7) 29 (HO (m.1 28) z13 6)) 26 (z4 - 26)) 27 2) (m' := (kA (kA (kA (kA (kA m 62 (up (m.2.1 62) 30 z7)) 62 (up (up (m.2.1 62) 30 z7) 29 (HO (m.1 28) z13 6))) 62 (up (up (up (m.2.1 62) 30 z7) 29 (HO (m.1 28) z13 6)) 26 (z4 - 26))) 62 (up (up (up (up (m.2.1 62) 30 z7) 29 (HO (m.1 28) z13 6)) 26 (z4 - 26)) 27 2)) 62 (up (up (up (up (up (m.2.1 62) 30 z7) 29 (HO (m.1 28) z13 6)) 26 (z4 - 26)) 27 2) 28 (-1)))) rfl (kl_62 _) (by decide) (by omega) (by omega) (kA_62 _ _) ?_
              have hm34 : kI (kA (kA (kA (kA (kA m 62 (up (m.2.1 62) 30 z7)) 62 (up (up (m.2.1 62) 30 z7) 29 (HO (m.1 28) z13 6))) 62 (up (up (up (m.2.1 62) 30 z7) 29 (HO (m.1 28) z13 6)) 26 (z4 - 26))) 62 (up (up (up (up (m.2.1 62) 30 z7) 29 (HO (m.1 28) z13 6)) 26 (z4 - 26)) 27 2)) 62 (up (up (up (up (up (m.2.1 62) 30 z7) 29 (HO (m.1 28) z13 6)) 26 (z4 - 26)) 27 2) 28 (-1))) := kI_U hm31 62 rfl (show ((-2147483648) : Int) ≤ (-1) by omega) (show (-1) ≤ (2147483647 : Int) by omega)
              have hf35 : fr [] [62] m (kA (kA (kA (kA (kA m 62 (up (m.2.1 62) 30 z7)) 62 (up (up (m.2.1 62) 30 z7) 29 (HO (m.1 28) z13 6))) 62 (up (up (up (m.2.1 62) 30 z7) 29 (HO (m.1 28) z13 6)) 26 (z4 - 26))) 62 (up (up (up (up (m.2.1 62) 30 z7) 29 (HO (m.1 28) z13 6)) 26 (z4 - 26)) 27 2)) 62 (up (up (up (up (up (m.2.1 62) 30 z7) 29 (HO (m.1 28) z13 6)) 26 (z4 - 26)) 27 2) 28 (-1))) := fr_A hf32 62 _ rfl
              refine g_aload_n (n := 0) rfl rfl ?_
              refine g_getf (v := vR 62) rfl (kl_61 _) rfl ?_
              refine g_iload_n (n := 3) rfl rfl ?_
              refine g_iconst rfl ?_
              refine g_iaddE (z := 24) (by decide) rfl ?_
              refine g_iconst rfl ?_
              refine g_iaddE (z := 25) (by decide) rfl ?_
              refine g_iload_n (n := 1) rfl rfl ?_
              refine g_sipush (by decide) rfl ?_
              refine g_idivC (by omega) (by omega) (by decide) (by decide) rfl ?_
              intro z36 h37
              refine g_bipush (by decide) rfl ?_
              refine g_iremC (by omega) (by omega) (by decide) (by decide) rfl ?_
              intro z38 h39
              refine g_iAst (f := up (up (up (up (up (m.2.1 62) 30 z7) 29 (HO (m.1 28) z13 6)) 26 (z4 - 26)) 27 2) 28 (-1)) (m' := (kA (kA (kA (kA (kA (kA m 62 (up (m.2.1 62) 30 z7)) 62 (up (up (m.2.1 62) 30 z7) 29 (HO (m.1 28) z13 6))) 62 (up (up (up (m.2.1 62) 30 z7) 29 (HO (m.1 28) z13 6)) 26 (z4 - 26))) 62 (up (up (up (up (m.2.1 62) 30 z7) 29 (HO (m.1 28) z13 6)) 26 (z4 - 26)) 27 2)) 62 (up (up (up (up (up (m.2.1 62) 30 z7) 29 (HO (m.1 28) z13 6)) 26 (z4 - 26)) 27 2) 28 (-1))) 62 (up (up (up (up (up (up (m.2.1 62) 30 z7) 29 (HO (m.1 28) z13 6)) 26 (z4 - 26)) 27 2) 28 (-1)) 25 z38))) rfl (kl_62 _) (by decide) (by omega) (by omega) (kA_62 _ _) ?_
              have hm40 : kI (kA (kA (kA (kA (kA (kA m 62 (up (m.2.1 62) 30 z7)) 62 (up (up (m.2.1 62) 30 z7) 29 (HO (m.1 28) z13 6))) 62 (up (up (up (m.2.1 62) 30 z7) 29 (HO (m.1 28) z13 6)) 26 (z4 - 26))) 62 (up (up (up (up (m.2.1 62) 30 z7) 29 (HO (m.1 28) z13 6)) 26 (z4 - 26)) 27 2)) 62 (up (up (up (up (up (m.2.1 62) 30 z7) 29 (HO (m.1 28) z13 6)) 26 (z4 - 26)) 27 2) 28 (-1))) 62 (up (up (up (up (up (up (m.2.1 62) 30 z7) 29 (HO (m.1 28) z13 6)) 26 (z4 - 26)) 27 2) 28 (-1)) 25 z38)) := kI_U hm34 62 rfl (show ((-2147483648) : Int) ≤ z38 by omega) (show z38 ≤ (2147483647 : Int) by omega)
              have hf41 : fr [] [62] m (kA (kA (kA (kA (kA (kA m 62 (up (m.2.1 62) 30 z7)) 62 (up (up (m.2.1 62) 30 z7) 29 (HO (m.1 28) z13 6))) 62 (up (up (up (m.2.1 62) 30 z7) 29 (HO (m.1 28) z13 6)) 26 (z4 - 26))) 62 (up (up (up (up (m.2.1 62) 30 z7) 29 (HO (m.1 28) z13 6)) 26 (z4 - 26)) 27 2)) 62 (up (up (up (up (up (m.2.1 62) 30 z7) 29 (HO (m.1 28) z13 6)) 26 (z4 - 26)) 27 2) 28 (-1))) 62 (up (up (up (up (up (up (m.2.1 62) 30 z7) 29 (HO (m.1 28) z13 6)) 26 (z4 - 26)) 27 2) 28 (-1)) 25 z38)) := fr_A hf35 62 _ rfl
              refine g_aload_n (n := 0) rfl rfl ?_
              refine g_getf (v := vR 62) rfl (kl_61 _) rfl ?_
              refine g_iload_n (n := 3) rfl rfl ?_
              refine g_iconst rfl ?_
              refine g_iaddE (z := 24) (by decide) rfl ?_
              refine g_iload_n (n := 1) rfl rfl ?_
              refine g_sipush (by decide) rfl ?_
              refine g_idivC (by omega) (by omega) (by decide) (by decide) rfl ?_
              intro z42 h43
              refine g_iAst (f := up (up (up (up (up (up (m.2.1 62) 30 z7) 29 (HO (m.1 28) z13 6)) 26 (z4 - 26)) 27 2) 28 (-1)) 25 z38) (m' := (kA (kA (kA (kA (kA (kA (kA m 62 (up (m.2.1 62) 30 z7)) 62 (up (up (m.2.1 62) 30 z7) 29 (HO (m.1 28) z13 6))) 62 (up (up (up (m.2.1 62) 30 z7) 29 (HO (m.1 28) z13 6)) 26 (z4 - 26))) 62 (up (up (up (up (m.2.1 62) 30 z7) 29 (HO (m.1 28) z13 6)) 26 (z4 - 26)) 27 2)) 62 (up (up (up (up (up (m.2.1 62) 30 z7) 29 (HO (m.1 28) z13 6)) 26 (z4 - 26)) 27 2) 28 (-1))) 62 (up (up (up (up (up (up (m.2.1 62) 30 z7) 29 (HO (m.1 28) z13 6)) 26 (z4 - 26)) 27 2) 28 (-1)) 25 z38)) 62 (up (up (up (up (up (up (up (m.2.1 62) 30 z7) 29 (HO (m.1 28) z13 6)) 26 (z4 - 26)) 27 2) 28 (-1)) 25 z38) 24 z42))) rfl (kl_62 _) (by decide) (by omega) (by omega) (kA_62 _ _) ?_
              have hm44 : kI (kA (kA (kA (kA (kA (kA (kA m 62 (up (m.2.1 62) 30 z7)) 62 (up (up (m.2.1 62) 30 z7) 29 (HO (m.1 28) z13 6))) 62 (up (up (up (m.2.1 62) 30 z7) 29 (HO (m.1 28) z13 6)) 26 (z4 - 26))) 62 (up (up (up (up (m.2.1 62) 30 z7) 29 (HO (m.1 28) z13 6)) 26 (z4 - 26)) 27 2)) 62 (up (up (up (up (up (m.2.1 62) 30 z7) 29 (HO (m.1 28) z13 6)) 26 (z4 - 26)) 27 2) 28 (-1))) 62 (up (up (up (up (up (up (m.2.1 62) 30 z7) 29 (HO (m.1 28) z13 6)) 26 (z4 - 26)) 27 2) 28 (-1)) 25 z38)) 62 (up (up (up (up (up (up (up (m.2.1 62) 30 z7) 29 (HO (m.1 28) z13 6)) 26 (z4 - 26)) 27 2) 28 (-1)) 25 z38) 24 z42)) := kI_U hm40 62 rfl (show ((-2147483648) : Int) ≤ z42 by omega) (show z42 ≤ (2147483647 : Int) by omega)
              have hf45 : fr [] [62] m (kA (kA (kA (kA (kA (kA (kA m 62 (up (m.2.1 62) 30 z7)) 62 (up (up (m.2.1 62) 30 z7) 29 (HO (m.1 28) z13 6))) 62 (up (up (up (m.2.1 62) 30 z7) 29 (HO (m.1 28) z13 6)) 26 (z4 - 26))) 62 (up (up (up (up (m.2.1 62) 30 z7) 29 (HO (m.1 28) z13 6)) 26 (z4 - 26)) 27 2)) 62 (up (up (up (up (up (m.2.1 62) 30 z7) 29 (HO (m.1 28) z13 6)) 26 (z4 - 26)) 27 2) 28 (-1))) 62 (up (up (up (up (up (up (m.2.1 62) 30 z7) 29 (HO (m.1 28) z13 6)) 26 (z4 - 26)) 27 2) 28 (-1)) 25 z38)) 62 (up (up (up (up (up (up (up (m.2.1 62) 30 z7) 29 (HO (m.1 28) z13 6)) 26 (z4 - 26)) 27 2) 28 (-1)) 25 z38) 24 z42)) := fr_A hf41 62 _ rfl
              refine g_vret rfl rfl ?_
              have hz2 : z2 = n / 64 := by omega
              subst hz2
              have e0 : z42 = n / 10752 := by omega
              have e1 : z38 = n / 1792 % 6 := by omega
              have e2 : (z4 - 26) = (if n / 64 % 28 < 24 then n / 64 % 28 / 12 else if n / 64 % 28 < 26 then 2 else n / 64 % 28 - 26) := by (repeat' split) <;> omega
              have e3 : 2 = (if n / 64 % 28 < 24 then n / 64 % 28 / 6 % 2 else if n / 64 % 28 < 26 then n / 64 % 28 - 24 else 2) := by (repeat' split) <;> omega
              have e4 : (-1) = (if n / 64 % 28 < 24 then n / 64 % 28 % 6 else -1) := by (repeat' split) <;> omega
              have e5 : (HO (m.1 28) z13 6) = HO (m.1 28) (n / 4 % 16) 6 := by rw [show z13 = n / 4 % 16 by omega]
              have e6 : z7 = n % 4 := by omega
              exact ⟨_, rfl, hm44, hf45, kS_ext e0 e1 e2 e3 e4 e5 e6, (fun j hj => by show (up (up (up (up (up (up (up (m.2.1 62) 30 z7) 29 (HO (m.1 28) z13 6)) 26 (z4 - 26)) 27 2) 28 (-1)) 25 z38) 24 z42) j = m.2.1 62 j; rw [up_ne _ (by omega), up_ne _ (by omega), up_ne _ (by omega), up_ne _ (by omega), up_ne _ (by omega), up_ne _ (by omega), up_ne _ (by omega)])⟩
            · intro k46
              exfalso; omega
          · intro k47
            exfalso; omega
        · intro k48
          exfalso; omega
      · intro k49
        refine g_iconst rfl ?_
        refine g_goto rfl ?_
        refine g_iAst (f := up (up (m.2.1 62) 30 z7) 29 (HO (m.1 28) z13 6)) (m' := (kA (kA (kA m 62 (up (m.2.1 62) 30 z7)) 62 (up (up (m.2.1 62) 30 z7) 29 (HO (m.1 28) z13 6))) 62 (up (up (up (m.2.1 62) 30 z7) 29 (HO (m.1 28) z13 6)) 26 2))) rfl (kl_62 _) (by decide) (by omega) (by omega) (kA_62 _ _) ?_
        have hm50 : kI (kA (kA (kA m 62 (up (m.2.1 62) 30 z7)) 62 (up (up (m.2.1 62) 30 z7) 29 (HO (m.1 28) z13 6))) 62 (up (up (up (m.2.1 62) 30 z7) 29 (HO (m.1 28) z13 6)) 26 2)) := kI_U hm23 62 rfl (show ((-2147483648) : Int) ≤ 2 by omega) (show 2 ≤ (2147483647 : Int) by omega)
        have hf51 : fr [] [62] m (kA (kA (kA m 62 (up (m.2.1 62) 30 z7)) 62 (up (up (m.2.1 62) 30 z7) 29 (HO (m.1 28) z13 6))) 62 (up (up (up (m.2.1 62) 30 z7) 29 (HO (m.1 28) z13 6)) 26 2)) := fr_A hf24 62 _ rfl
        refine g_aload_n (n := 0) rfl rfl ?_
        refine g_getf (v := vR 62) rfl (kl_61 _) rfl ?_
        refine g_iload_n (n := 3) rfl rfl ?_
        refine g_iconst rfl ?_
        refine g_iaddE (z := 26) (by decide) rfl ?_
        refine g_iconst rfl ?_
        refine g_iaddE (z := 27) (by decide) rfl ?_
        refine g_iload (n := 5) rfl rfl ?_
        refine g_if_eq (by decide) (by decide) rfl ?_ ?_
        · intro k52
          refine g_iload (n := 4) rfl rfl ?_
          refine g_bipush (by decide) rfl ?_
          refine g_icmp_ge (by omega) (by omega) (by decide) (by decide) rfl ?_ ?_
          · intro k53
            exfalso; omega
          · intro k54
            refine g_iload (n := 4) rfl rfl ?_
            refine g_bipush (by decide) rfl ?_
            refine g_isub rfl ?_
            refine g_goto rfl ?_
            refine g_iAst (f := up (up (up (m.2.1 62) 30 z7) 29 (HO (m.1 28) z13 6)) 26 2) (m' := (kA (kA (kA (kA m 62 (up (m.2.1 62) 30 z7)) 62 (up (up (m.2.1 62) 30 z7) 29 (HO (m.1 28) z13 6))) 62 (up (up (up (m.2.1 62) 30 z7) 29 (HO (m.1 28) z13 6)) 26 2)) 62 (up (up (up (up (m.2.1 62) 30 z7) 29 (HO (m.1 28) z13 6)) 26 2) 27 (z4 - 24)))) rfl (kl_62 _) (by decide) (by omega) (by omega) (kA_62 _ _) ?_
            have hm55 : kI (kA (kA (kA (kA m 62 (up (m.2.1 62) 30 z7)) 62 (up (up (m.2.1 62) 30 z7) 29 (HO (m.1 28) z13 6))) 62 (up (up (up (m.2.1 62) 30 z7) 29 (HO (m.1 28) z13 6)) 26 2)) 62 (up (up (up (up (m.2.1 62) 30 z7) 29 (HO (m.1 28) z13 6)) 26 2) 27 (z4 - 24))) := kI_U hm50 62 rfl (show ((-2147483648) : Int) ≤ (z4 - 24) by omega) (show (z4 - 24) ≤ (2147483647 : Int) by omega)
            have hf56 : fr [] [62] m (kA (kA (kA (kA m 62 (up (m.2.1 62) 30 z7)) 62 (up (up (m.2.1 62) 30 z7) 29 (HO (m.1 28) z13 6))) 62 (up (up (up (m.2.1 62) 30 z7) 29 (HO (m.1 28) z13 6)) 26 2)) 62 (up (up (up (up (m.2.1 62) 30 z7) 29 (HO (m.1 28) z13 6)) 26 2) 27 (z4 - 24))) := fr_A hf51 62 _ rfl
            refine g_aload_n (n := 0) rfl rfl ?_
            refine g_getf (v := vR 62) rfl (kl_61 _) rfl ?_
            refine g_iload_n (n := 3) rfl rfl ?_
            refine g_iconst rfl ?_
            refine g_iaddE (z := 28) (by decide) rfl ?_
            refine g_iload (n := 5) rfl rfl ?_
            refine g_if_eq (by decide) (by decide) rfl ?_ ?_
            · intro k57
              refine g_iconst rfl ?_
              refine g_iAst (f := up (up (up (up (m.2.1 62) 30 z7) 29 (HO (m.1 28) z13 6)) 26 2) 27 (z4 - 24)) (m' := (kA (kA (kA (kA (kA m 62 (up (m.2.1 62) 30 z7)) 62 (up (up (m.2.1 62) 30 z7) 29 (HO (m.1 28) z13 6))) 62 (up (up (up (m.2.1 62) 30 z7) 29 (HO (m.1 28) z13 6)) 26 2)) 62 (up (up (up (up (m.2.1 62) 30 z7) 29 (HO (m.1 28) z13 6)) 26 2) 27 (z4 - 24))) 62 (up (up (up (up (up (m.2.1 62) 30 z7) 29 (HO (m.1 28) z13 6)) 26 2) 27 (z4 - 24)) 28 (-1)))) rfl (kl_62 _) (by decide) (by omega) (by omega) (kA_62 _ _) ?_
              have hm58 : kI (kA (kA (kA (kA (kA m 62 (up (m.2.1 62) 30 z7)) 62 (up (up (m.2.1 62) 30 z7) 29 (HO (m.1 28) z13 6))) 62 (up (up (up (m.2.1 62) 30 z7) 29 (HO (m.1 28) z13 6)) 26 2)) 62 (up (up (up (up (m.2.1 62) 30 z7) 29 (HO (m.1 28) z13 6)) 26 2) 27 (z4 - 24))) 62 (up (up (up (up (up (m.2.1 62) 30 z7) 29 (HO (m.1 28) z13 6)) 26 2) 27 (z4 - 24)) 28 (-1))) := kI_U hm55 62 rfl (show ((-2147483648) : Int) ≤ (-1) by omega) (show (-1) ≤ (2147483647 : Int) by omega)
              have hf59 : fr [] [62] m (kA (kA (kA (kA (kA m 62 (up (m.2.1 62) 30 z7)) 62 (up (up (m.2.1 62) 30 z7) 29 (HO (m.1 28) z13 6))) 62 (up (up (up (m.2.1 62) 30 z7) 29 (HO (m.1 28) z13 6)) 26 2)) 62 (up (up (up (up (m.2.1 62) 30 z7) 29 (HO (m.1 28) z13 6)) 26 2) 27 (z4 - 24))) 62 (up (up (up (up (up (m.2.1 62) 30 z7) 29 (HO (m.1 28) z13 6)) 26 2) 27 (z4 - 24)) 28 (-1))) := fr_A hf56 62 _ rfl
              refine g_aload_n (n := 0) rfl rfl ?_
              refine g_getf (v := vR 62) rfl (kl_61 _) rfl ?_
              refine g_iload_n (n := 3) rfl rfl ?_
              refine g_iconst rfl ?_
              refine g_iaddE (z := 24) (by decide) rfl ?_
              refine g_iconst rfl ?_
              refine g_iaddE (z := 25) (by decide) rfl ?_
              refine g_iload_n (n := 1) rfl rfl ?_
              refine g_sipush (by decide) rfl ?_
              refine g_idivC (by omega) (by omega) (by decide) (by decide) rfl ?_
              intro z60 h61
              refine g_bipush (by decide) rfl ?_
              refine g_iremC (by omega) (by omega) (by decide) (by decide) rfl ?_
              intro z62 h63
              refine g_iAst (f := up (up (up (up (up (m.2.1 62) 30 z7) 29 (HO (m.1 28) z13 6)) 26 2) 27 (z4 - 24)) 28 (-1)) (m' := (kA (kA (kA (kA (kA (kA m 62 (up (m.2.1 62) 30 z7)) 62 (up (up (m.2.1 62) 30 z7) 29 (HO (m.1 28) z13 6))) 62 (up (up (up (m.2.1 62) 30 z7) 29 (HO (m.1 28) z13 6)) 26 2)) 62 (up (up (up (up (m.2.1 62) 30 z7) 29 (HO (m.1 28) z13 6)) 26 2) 27 (z4 - 24))) 62 (up (up (up (up (up (m.2.1 62) 30 z7) 29 (HO (m.1 28) z13 6)) 26 2) 27 (z4 - 24)) 28 (-1))) 62 (up (up (up (up (up (up (m.2.1 62) 30 z7) 29 (HO (m.1 28) z13 6)) 26 2) 27 (z4 - 24)) 28 (-1)) 25 z62))) rfl (kl_62 _) (by decide) (by omega) (by omega) (kA_62 _ _) ?_
              have hm64 : kI (kA (kA (kA (kA (kA (kA m 62 (up (m.2.1 62) 30 z7)) 62 (up (up (m.2.1 62) 30 z7) 29 (HO (m.1 28) z13 6))) 62 (up (up (up (m.2.1 62) 30 z7) 29 (HO (m.1 28) z13 6)) 26 2)) 62 (up (up (up (up (m.2.1 62) 30 z7) 29 (HO (m.1 28) z13 6)) 26 2) 27 (z4 - 24))) 62 (up (up (up (up (up (m.2.1 62) 30 z7) 29 (HO (m.1 28) z13 6)) 26 2) 27 (z4 - 24)) 28 (-1))) 62 (up (up (up (up (up (up (m.2.1 62) 30 z7) 29 (HO (m.1 28) z13 6)) 26 2) 27 (z4 - 24)) 28 (-1)) 25 z62)) := kI_U hm58 62 rfl (show ((-2147483648) : Int) ≤ z62 by omega) (show z62 ≤ (2147483647 : Int) by omega)
              have hf65 : fr [] [62] m (kA (kA (kA (kA (kA (kA m 62 (up (m.2.1 62) 30 z7)) 62 (up (up (m.2.1 62) 30 z7) 29 (HO (m.1 28) z13 6))) 62 (up (up (up (m.2.1 62) 30 z7) 29 (HO (m.1 28) z13 6)) 26 2)) 62 (up (up (up (up (m.2.1 62) 30 z7) 29 (HO (m.1 28) z13 6)) 26 2) 27 (z4 - 24))) 62 (up (up (up (up (up (m.2.1 62) 30 z7) 29 (HO (m.1 28) z13 6)) 26 2) 27 (z4 - 24)) 28 (-1))) 62 (up (up (up (up (up (up (m.2.1 62) 30 z7) 29 (HO (m.1 28) z13 6)) 26 2) 27 (z4 - 24)) 28 (-1)) 25 z62)) := fr_A hf59 62 _ rfl
              refine g_aload_n (n := 0) rfl rfl ?_
              refine g_getf (v := vR 62) rfl (kl_61 _) rfl ?_
              refine g_iload_n (n := 3) rfl rfl ?_
              refine g_iconst rfl ?_
              refine g_iaddE (z := 24) (by decide) rfl ?_
              refine g_iload_n (n := 1) rfl rfl ?_
              refine g_sipush (by decide) rfl ?_
              refine g_idivC (by omega) (by omega) (by decide) (by decide) rfl ?_
              intro z66 h67
              refine g_iAst (f := up (up (up (up (up (up (m.2.1 62) 30 z7) 29 (HO (m.1 28) z13 6)) 26 2) 27 (z4 - 24)) 28 (-1)) 25 z62) (m' := (kA (kA (kA (kA (kA (kA (kA m 62 (up (m.2.1 62) 30 z7)) 62 (up (up (m.2.1 62) 30 z7) 29 (HO (m.1 28) z13 6))) 62 (up (up (up (m.2.1 62) 30 z7) 29 (HO (m.1 28) z13 6)) 26 2)) 62 (up (up (up (up (m.2.1 62) 30 z7) 29 (HO (m.1 28) z13 6)) 26 2) 27 (z4 - 24))) 62 (up (up (up (up (up (m.2.1 62) 30 z7) 29 (HO (m.1 28) z13 6)) 26 2) 27 (z4 - 24)) 28 (-1))) 62 (up (up (up (up (up (up (m.2.1 62) 30 z7) 29 (HO (m.1 28) z13 6)) 26 2) 27 (z4 - 24)) 28 (-1)) 25 z62)) 62 (up (up (up (up (up (up (up (m.2.1 62) 30 z7) 29 (HO (m.1 28) z13 6)) 26 2) 27 (z4 - 24)) 28 (-1)) 25 z62) 24 z66))) rfl (kl_62 _) (by decide) (by omega) (by omega) (kA_62 _ _) ?_
              have hm68 : kI (kA (kA (kA (kA (kA (kA (kA m 62 (up (m.2.1 62) 30 z7)) 62 (up (up (m.2.1 62) 30 z7) 29 (HO (m.1 28) z13 6))) 62 (up (up (up (m.2.1 62) 30 z7) 29 (HO (m.1 28) z13 6)) 26 2)) 62 (up (up (up (up (m.2.1 62) 30 z7) 29 (HO (m.1 28) z13 6)) 26 2) 27 (z4 - 24))) 62 (up (up (up (up (up (m.2.1 62) 30 z7) 29 (HO (m.1 28) z13 6)) 26 2) 27 (z4 - 24)) 28 (-1))) 62 (up (up (up (up (up (up (m.2.1 62) 30 z7) 29 (HO (m.1 28) z13 6)) 26 2) 27 (z4 - 24)) 28 (-1)) 25 z62)) 62 (up (up (up (up (up (up (up (m.2.1 62) 30 z7) 29 (HO (m.1 28) z13 6)) 26 2) 27 (z4 - 24)) 28 (-1)) 25 z62) 24 z66)) := kI_U hm64 62 rfl (show ((-2147483648) : Int) ≤ z66 by omega) (show z66 ≤ (2147483647 : Int) by omega)
              have hf69 : fr [] [62] m (kA (kA (kA (kA (kA (kA (kA m 62 (up (m.2.1 62) 30 z7)) 62 (up (up (m.2.1 62) 30 z7) 29 (HO (m.1 28) z13 6))) 62 (up (up (up (m.2.1 62) 30 z7) 29 (HO (m.1 28) z13 6)) 26 2)) 62 (up (up (up (up (m.2.1 62) 30 z7) 29 (HO (m.1 28) z13 6)) 26 2) 27 (z4 - 24))) 62 (up (up (up (up (up (m.2.1 62) 30 z7) 29 (HO (m.1 28) z13 6)) 26 2) 27 (z4 - 24)) 28 (-1))) 62 (up (up (up (up (up (up (m.2.1 62) 30 z7) 29 (HO (m.1 28) z13 6)) 26 2) 27 (z4 - 24)) 28 (-1)) 25 z62)) 62 (up (up (up (up (up (up (up (m.2.1 62) 30 z7) 29 (HO (m.1 28) z13 6)) 26 2) 27 (z4 - 24)) 28 (-1)) 25 z62) 24 z66)) := fr_A hf65 62 _ rfl
              refine g_vret rfl rfl ?_
              have hz2 : z2 = n / 64 := by omega
              subst hz2
              have e0 : z66 = n / 10752 := by omega
              have e1 : z62 = n / 1792 % 6 := by omega
              have e2 : 2 = (if n / 64 % 28 < 24 then n / 64 % 28 / 12 else if n / 64 % 28 < 26 then 2 else n / 64 % 28 - 26) := by (repeat' split) <;> omega
              have e3 : (z4 - 24) = (if n / 64 % 28 < 24 then n / 64 % 28 / 6 % 2 else if n / 64 % 28 < 26 then n / 64 % 28 - 24 else 2) := by (repeat' split) <;> omega
              have e4 : (-1) = (if n / 64 % 28 < 24 then n / 64 % 28 % 6 else -1) := by (repeat' split) <;> omega
              have e5 : (HO (m.1 28) z13 6) = HO (m.1 28) (n / 4 % 16) 6 := by rw [show z13 = n / 4 % 16 by omega]
              have e6 : z7 = n % 4 := by omega
              exact ⟨_, rfl, hm68, hf69, kS_ext e0 e1 e2 e3 e4 e5 e6, (fun j hj => by show (up (up (up (up (up (up (up (m.2.1 62) 30 z7) 29 (HO (m.1 28) z13 6)) 26 2) 27 (z4 - 24)) 28 (-1)) 25 z62) 24 z66) j = m.2.1 62 j; rw [up_ne _ (by omega), up_ne _ (by omega), up_ne _ (by omega), up_ne _ (by omega), up_ne _ (by omega), up_ne _ (by omega), up_ne _ (by omega)])⟩
            · intro k70
              exfalso; omega
        · intro k71
          exfalso; omega
    · intro k72
      exfalso; omega
  · intro k73
    refine g_iconst rfl ?_
    refine g_goto rfl ?_
    refine g_istore (n := 5) (lo' := [(4, vI z4), (3, vI 24), (0, vR 61), (1, vI n), (2, vI 3)]) rfl rfl ?_
    refine g_aload_n (n := 0) rfl rfl ?_
    refine g_getf (v := vR 62) rfl (kl_61 _) rfl ?_
    refine g_iload_n (n := 3) rfl rfl ?_
    refine g_bipush (by decide) rfl ?_
    refine g_iaddE (z := 30) (by decide) rfl ?_
    refine g_iload_n (n := 1) rfl rfl ?_
    refine g_iconst rfl ?_
    refine g_iremC (by omega) (by omega) (by decide) (by decide) rfl ?_
    intro z74 h75
    refine g_iAst (f := m.2.1 62) (m' := (kA m 62 (up (m.2.1 62) 30 z74))) rfl (kl_62 _) (by decide) (by omega) (by omega) (kA_62 _ _) ?_
    have hm76 : kI (kA m 62 (up (m.2.1 62) 30 z74)) := kI_U hm 62 rfl (show ((-2147483648) : Int) ≤ z74 by omega) (show z74 ≤ (2147483647 : Int) by omega)
    have hf77 : fr [] [62] m (kA m 62 (up (m.2.1 62) 30 z74)) := fr_A hf0 62 _ rfl
    refine g_aload_n (n := 0) rfl rfl ?_
    refine g_getf (v := vR 62) rfl (kl_61 _) rfl ?_
    refine g_iload_n (n := 3) rfl rfl ?_
    refine g_iconst rfl ?_
    refine g_iaddE (z := 29) (by decide) rfl ?_
    refine g_aload_n (n := 0) rfl rfl ?_
    refine g_iload_n (n := 1) rfl rfl ?_
    refine g_iconst rfl ?_
    refine g_idivC (by omega) (by omega) (by decide) (by decide) rfl ?_
    intro z78 h79
    refine g_bipush (by decide) rfl ?_
    refine g_iremC (by omega) (by omega) (by decide) (by decide) rfl ?_
    intro z80 h81
    have h82 : (kA m 62 (up (m.2.1 62) 30 z74)).1 28 = m.1 28 := rfl
    refine c_vI (i := 61) (ps := [vI z80]) (r := [vI 29, vR 62]) (as := [vR 61, vI z80]) (cs' := 0) (sl' := 0) rfl rfl rfl rfl rfl rfl (kl_61 _) (d_hungryOf (d := d - 1) (q := q - (5 + 19)) (by omega) (by omega) hm76 (u := z80) (show 0 ≤ z80 ∧ z80 ≤ 15 by omega)) (by omega) (show 5 + 19 ≤ q by omega) (Nat.le_of_ble_eq_true rfl) (Nat.le_of_ble_eq_true rfl) rfl rfl rfl ?_
    rintro z83 m84 ⟨rfl, p86, p87, p88⟩
    have h89 : z83 = (HO (m.1 28) z80 6) := p86
    subst h89
    refine g_iAst (f := up (m.2.1 62) 30 z74) (m' := (kA (kA m 62 (up (m.2.1 62) 30 z74)) 62 (up (up (m.2.1 62) 30 z74) 29 (HO (m.1 28) z80 6)))) rfl (kl_62 _) (by decide) (by omega) (by omega) (kA_62 _ _) ?_
    have hm90 : kI (kA (kA m 62 (up (m.2.1 62) 30 z74)) 62 (up (up (m.2.1 62) 30 z74) 29 (HO (m.1 28) z80 6))) := kI_U hm76 62 rfl (show ((-2147483648) : Int) ≤ (HO (m.1 28) z80 6) by omega) (show (HO (m.1 28) z80 6) ≤ (2147483647 : Int) by omega)
    have hf91 : fr [] [62] m (kA (kA m 62 (up (m.2.1 62) 30 z74)) 62 (up (up (m.2.1 62) 30 z74) 29 (HO (m.1 28) z80 6))) := fr_A hf77 62 _ rfl
    refine g_aload_n (n := 0) rfl rfl ?_
    refine g_getf (v := vR 62) rfl (kl_61 _) rfl ?_
    refine g_iload_n (n := 3) rfl rfl ?_
    refine g_iconst rfl ?_
    refine g_iaddE (z := 26) (by decide) rfl ?_
    refine g_iload (n := 5) rfl rfl ?_
    refine g_if_eq (by decide) (by decide) rfl ?_ ?_
    · intro k92
      exfalso; omega
    · intro k93
      refine g_iload (n := 4) rfl rfl ?_
      refine g_bipush (by decide) rfl ?_
      refine g_idivC (by omega) (by omega) (by decide) (by decide) rfl ?_
      intro z94 h95
      refine g_goto rfl ?_
      refine g_iAst (f := up (up (m.2.1 62) 30 z74) 29 (HO (m.1 28) z80 6)) (m' := (kA (kA (kA m 62 (up (m.2.1 62) 30 z74)) 62 (up (up (m.2.1 62) 30 z74) 29 (HO (m.1 28) z80 6))) 62 (up (up (up (m.2.1 62) 30 z74) 29 (HO (m.1 28) z80 6)) 26 z94))) rfl (kl_62 _) (by decide) (by omega) (by omega) (kA_62 _ _) ?_
      have hm96 : kI (kA (kA (kA m 62 (up (m.2.1 62) 30 z74)) 62 (up (up (m.2.1 62) 30 z74) 29 (HO (m.1 28) z80 6))) 62 (up (up (up (m.2.1 62) 30 z74) 29 (HO (m.1 28) z80 6)) 26 z94)) := kI_U hm90 62 rfl (show ((-2147483648) : Int) ≤ z94 by omega) (show z94 ≤ (2147483647 : Int) by omega)
      have hf97 : fr [] [62] m (kA (kA (kA m 62 (up (m.2.1 62) 30 z74)) 62 (up (up (m.2.1 62) 30 z74) 29 (HO (m.1 28) z80 6))) 62 (up (up (up (m.2.1 62) 30 z74) 29 (HO (m.1 28) z80 6)) 26 z94)) := fr_A hf91 62 _ rfl
      refine g_aload_n (n := 0) rfl rfl ?_
      refine g_getf (v := vR 62) rfl (kl_61 _) rfl ?_
      refine g_iload_n (n := 3) rfl rfl ?_
      refine g_iconst rfl ?_
      refine g_iaddE (z := 26) (by decide) rfl ?_
      refine g_iconst rfl ?_
      refine g_iaddE (z := 27) (by decide) rfl ?_
      refine g_iload (n := 5) rfl rfl ?_
      refine g_if_eq (by decide) (by decide) rfl ?_ ?_
      · intro k98
        exfalso; omega
      · intro k99
        refine g_iload (n := 4) rfl rfl ?_
        refine g_bipush (by decide) rfl ?_
        refine g_idivC (by omega) (by omega) (by decide) (by decide) rfl ?_
        intro z100 h101
        refine g_iconst rfl ?_
        refine g_iremC (by omega) (by omega) (by decide) (by decide) rfl ?_
        intro z102 h103
        refine g_goto rfl ?_
        refine g_iAst (f := up (up (up (m.2.1 62) 30 z74) 29 (HO (m.1 28) z80 6)) 26 z94) (m' := (kA (kA (kA (kA m 62 (up (m.2.1 62) 30 z74)) 62 (up (up (m.2.1 62) 30 z74) 29 (HO (m.1 28) z80 6))) 62 (up (up (up (m.2.1 62) 30 z74) 29 (HO (m.1 28) z80 6)) 26 z94)) 62 (up (up (up (up (m.2.1 62) 30 z74) 29 (HO (m.1 28) z80 6)) 26 z94) 27 z102))) rfl (kl_62 _) (by decide) (by omega) (by omega) (kA_62 _ _) ?_
        have hm104 : kI (kA (kA (kA (kA m 62 (up (m.2.1 62) 30 z74)) 62 (up (up (m.2.1 62) 30 z74) 29 (HO (m.1 28) z80 6))) 62 (up (up (up (m.2.1 62) 30 z74) 29 (HO (m.1 28) z80 6)) 26 z94)) 62 (up (up (up (up (m.2.1 62) 30 z74) 29 (HO (m.1 28) z80 6)) 26 z94) 27 z102)) := kI_U hm96 62 rfl (show ((-2147483648) : Int) ≤ z102 by omega) (show z102 ≤ (2147483647 : Int) by omega)
        have hf105 : fr [] [62] m (kA (kA (kA (kA m 62 (up (m.2.1 62) 30 z74)) 62 (up (up (m.2.1 62) 30 z74) 29 (HO (m.1 28) z80 6))) 62 (up (up (up (m.2.1 62) 30 z74) 29 (HO (m.1 28) z80 6)) 26 z94)) 62 (up (up (up (up (m.2.1 62) 30 z74) 29 (HO (m.1 28) z80 6)) 26 z94) 27 z102)) := fr_A hf97 62 _ rfl
        refine g_aload_n (n := 0) rfl rfl ?_
        refine g_getf (v := vR 62) rfl (kl_61 _) rfl ?_
        refine g_iload_n (n := 3) rfl rfl ?_
        refine g_iconst rfl ?_
        refine g_iaddE (z := 28) (by decide) rfl ?_
        refine g_iload (n := 5) rfl rfl ?_
        refine g_if_eq (by decide) (by decide) rfl ?_ ?_
        · intro k106
          exfalso; omega
        · intro k107
          refine g_iload (n := 4) rfl rfl ?_
          refine g_bipush (by decide) rfl ?_
          refine g_iremC (by omega) (by omega) (by decide) (by decide) rfl ?_
          intro z108 h109
          refine g_goto rfl ?_
          refine g_iAst (f := up (up (up (up (m.2.1 62) 30 z74) 29 (HO (m.1 28) z80 6)) 26 z94) 27 z102) (m' := (kA (kA (kA (kA (kA m 62 (up (m.2.1 62) 30 z74)) 62 (up (up (m.2.1 62) 30 z74) 29 (HO (m.1 28) z80 6))) 62 (up (up (up (m.2.1 62) 30 z74) 29 (HO (m.1 28) z80 6)) 26 z94)) 62 (up (up (up (up (m.2.1 62) 30 z74) 29 (HO (m.1 28) z80 6)) 26 z94) 27 z102)) 62 (up (up (up (up (up (m.2.1 62) 30 z74) 29 (HO (m.1 28) z80 6)) 26 z94) 27 z102) 28 z108))) rfl (kl_62 _) (by decide) (by omega) (by omega) (kA_62 _ _) ?_
          have hm110 : kI (kA (kA (kA (kA (kA m 62 (up (m.2.1 62) 30 z74)) 62 (up (up (m.2.1 62) 30 z74) 29 (HO (m.1 28) z80 6))) 62 (up (up (up (m.2.1 62) 30 z74) 29 (HO (m.1 28) z80 6)) 26 z94)) 62 (up (up (up (up (m.2.1 62) 30 z74) 29 (HO (m.1 28) z80 6)) 26 z94) 27 z102)) 62 (up (up (up (up (up (m.2.1 62) 30 z74) 29 (HO (m.1 28) z80 6)) 26 z94) 27 z102) 28 z108)) := kI_U hm104 62 rfl (show ((-2147483648) : Int) ≤ z108 by omega) (show z108 ≤ (2147483647 : Int) by omega)
          have hf111 : fr [] [62] m (kA (kA (kA (kA (kA m 62 (up (m.2.1 62) 30 z74)) 62 (up (up (m.2.1 62) 30 z74) 29 (HO (m.1 28) z80 6))) 62 (up (up (up (m.2.1 62) 30 z74) 29 (HO (m.1 28) z80 6)) 26 z94)) 62 (up (up (up (up (m.2.1 62) 30 z74) 29 (HO (m.1 28) z80 6)) 26 z94) 27 z102)) 62 (up (up (up (up (up (m.2.1 62) 30 z74) 29 (HO (m.1 28) z80 6)) 26 z94) 27 z102) 28 z108)) := fr_A hf105 62 _ rfl
          refine g_aload_n (n := 0) rfl rfl ?_
          refine g_getf (v := vR 62) rfl (kl_61 _) rfl ?_
          refine g_iload_n (n := 3) rfl rfl ?_
          refine g_iconst rfl ?_
          refine g_iaddE (z := 24) (by decide) rfl ?_
          refine g_iconst rfl ?_
          refine g_iaddE (z := 25) (by decide) rfl ?_
          refine g_iload_n (n := 1) rfl rfl ?_
          refine g_sipush (by decide) rfl ?_
          refine g_idivC (by omega) (by omega) (by decide) (by decide) rfl ?_
          intro z112 h113
          refine g_bipush (by decide) rfl ?_
          refine g_iremC (by omega) (by omega) (by decide) (by decide) rfl ?_
          intro z114 h115
          refine g_iAst (f := up (up (up (up (up (m.2.1 62) 30 z74) 29 (HO (m.1 28) z80 6)) 26 z94) 27 z102) 28 z108) (m' := (kA (kA (kA (kA (kA (kA m 62 (up (m.2.1 62) 30 z74)) 62 (up (up (m.2.1 62) 30 z74) 29 (HO (m.1 28) z80 6))) 62 (up (up (up (m.2.1 62) 30 z74) 29 (HO (m.1 28) z80 6)) 26 z94)) 62 (up (up (up (up (m.2.1 62) 30 z74) 29 (HO (m.1 28) z80 6)) 26 z94) 27 z102)) 62 (up (up (up (up (up (m.2.1 62) 30 z74) 29 (HO (m.1 28) z80 6)) 26 z94) 27 z102) 28 z108)) 62 (up (up (up (up (up (up (m.2.1 62) 30 z74) 29 (HO (m.1 28) z80 6)) 26 z94) 27 z102) 28 z108) 25 z114))) rfl (kl_62 _) (by decide) (by omega) (by omega) (kA_62 _ _) ?_
          have hm116 : kI (kA (kA (kA (kA (kA (kA m 62 (up (m.2.1 62) 30 z74)) 62 (up (up (m.2.1 62) 30 z74) 29 (HO (m.1 28) z80 6))) 62 (up (up (up (m.2.1 62) 30 z74) 29 (HO (m.1 28) z80 6)) 26 z94)) 62 (up (up (up (up (m.2.1 62) 30 z74) 29 (HO (m.1 28) z80 6)) 26 z94) 27 z102)) 62 (up (up (up (up (up (m.2.1 62) 30 z74) 29 (HO (m.1 28) z80 6)) 26 z94) 27 z102) 28 z108)) 62 (up (up (up (up (up (up (m.2.1 62) 30 z74) 29 (HO (m.1 28) z80 6)) 26 z94) 27 z102) 28 z108) 25 z114)) := kI_U hm110 62 rfl (show ((-2147483648) : Int) ≤ z114 by omega) (show z114 ≤ (2147483647 : Int) by omega)
          have hf117 : fr [] [62] m (kA (kA (kA (kA (kA (kA m 62 (up (m.2.1 62) 30 z74)) 62 (up (up (m.2.1 62) 30 z74) 29 (HO (m.1 28) z80 6))) 62 (up (up (up (m.2.1 62) 30 z74) 29 (HO (m.1 28) z80 6)) 26 z94)) 62 (up (up (up (up (m.2.1 62) 30 z74) 29 (HO (m.1 28) z80 6)) 26 z94) 27 z102)) 62 (up (up (up (up (up (m.2.1 62) 30 z74) 29 (HO (m.1 28) z80 6)) 26 z94) 27 z102) 28 z108)) 62 (up (up (up (up (up (up (m.2.1 62) 30 z74) 29 (HO (m.1 28) z80 6)) 26 z94) 27 z102) 28 z108) 25 z114)) := fr_A hf111 62 _ rfl
          refine g_aload_n (n := 0) rfl rfl ?_
          refine g_getf (v := vR 62) rfl (kl_61 _) rfl ?_
          refine g_iload_n (n := 3) rfl rfl ?_
          refine g_iconst rfl ?_
          refine g_iaddE (z := 24) (by decide) rfl ?_
          refine g_iload_n (n := 1) rfl rfl ?_
          refine g_sipush (by decide) rfl ?_
          refine g_idivC (by omega) (by omega) (by decide) (by decide) rfl ?_
          intro z118 h119
          refine g_iAst (f := up (up (up (up (up (up (m.2.1 62) 30 z74) 29 (HO (m.1 28) z80 6)) 26 z94) 27 z102) 28 z108) 25 z114) (m' := (kA (kA (kA (kA (kA (kA (kA m 62 (up (m.2.1 62) 30 z74)) 62 (up (up (m.2.1 62) 30 z74) 29 (HO (m.1 28) z80 6))) 62 (up (up (up (m.2.1 62) 30 z74) 29 (HO (m.1 28) z80 6)) 26 z94)) 62 (up (up (up (up (m.2.1 62) 30 z74) 29 (HO (m.1 28) z80 6)) 26 z94) 27 z102)) 62 (up (up (up (up (up (m.2.1 62) 30 z74) 29 (HO (m.1 28) z80 6)) 26 z94) 27 z102) 28 z108)) 62 (up (up (up (up (up (up (m.2.1 62) 30 z74) 29 (HO (m.1 28) z80 6)) 26 z94) 27 z102) 28 z108) 25 z114)) 62 (up (up (up (up (up (up (up (m.2.1 62) 30 z74) 29 (HO (m.1 28) z80 6)) 26 z94) 27 z102) 28 z108) 25 z114) 24 z118))) rfl (kl_62 _) (by decide) (by omega) (by omega) (kA_62 _ _) ?_
          have hm120 : kI (kA (kA (kA (kA (kA (kA (kA m 62 (up (m.2.1 62) 30 z74)) 62 (up (up (m.2.1 62) 30 z74) 29 (HO (m.1 28) z80 6))) 62 (up (up (up (m.2.1 62) 30 z74) 29 (HO (m.1 28) z80 6)) 26 z94)) 62 (up (up (up (up (m.2.1 62) 30 z74) 29 (HO (m.1 28) z80 6)) 26 z94) 27 z102)) 62 (up (up (up (up (up (m.2.1 62) 30 z74) 29 (HO (m.1 28) z80 6)) 26 z94) 27 z102) 28 z108)) 62 (up (up (up (up (up (up (m.2.1 62) 30 z74) 29 (HO (m.1 28) z80 6)) 26 z94) 27 z102) 28 z108) 25 z114)) 62 (up (up (up (up (up (up (up (m.2.1 62) 30 z74) 29 (HO (m.1 28) z80 6)) 26 z94) 27 z102) 28 z108) 25 z114) 24 z118)) := kI_U hm116 62 rfl (show ((-2147483648) : Int) ≤ z118 by omega) (show z118 ≤ (2147483647 : Int) by omega)
          have hf121 : fr [] [62] m (kA (kA (kA (kA (kA (kA (kA m 62 (up (m.2.1 62) 30 z74)) 62 (up (up (m.2.1 62) 30 z74) 29 (HO (m.1 28) z80 6))) 62 (up (up (up (m.2.1 62) 30 z74) 29 (HO (m.1 28) z80 6)) 26 z94)) 62 (up (up (up (up (m.2.1 62) 30 z74) 29 (HO (m.1 28) z80 6)) 26 z94) 27 z102)) 62 (up (up (up (up (up (m.2.1 62) 30 z74) 29 (HO (m.1 28) z80 6)) 26 z94) 27 z102) 28 z108)) 62 (up (up (up (up (up (up (m.2.1 62) 30 z74) 29 (HO (m.1 28) z80 6)) 26 z94) 27 z102) 28 z108) 25 z114)) 62 (up (up (up (up (up (up (up (m.2.1 62) 30 z74) 29 (HO (m.1 28) z80 6)) 26 z94) 27 z102) 28 z108) 25 z114) 24 z118)) := fr_A hf117 62 _ rfl
          refine g_vret rfl rfl ?_
          have hz2 : z2 = n / 64 := by omega
          subst hz2
          have e0 : z118 = n / 10752 := by omega
          have e1 : z114 = n / 1792 % 6 := by omega
          have e2 : z94 = (if n / 64 % 28 < 24 then n / 64 % 28 / 12 else if n / 64 % 28 < 26 then 2 else n / 64 % 28 - 26) := by (repeat' split) <;> omega
          have e3 : z102 = (if n / 64 % 28 < 24 then n / 64 % 28 / 6 % 2 else if n / 64 % 28 < 26 then n / 64 % 28 - 24 else 2) := by (repeat' split) <;> omega
          have e4 : z108 = (if n / 64 % 28 < 24 then n / 64 % 28 % 6 else -1) := by (repeat' split) <;> omega
          have e5 : (HO (m.1 28) z80 6) = HO (m.1 28) (n / 4 % 16) 6 := by rw [show z80 = n / 4 % 16 by omega]
          have e6 : z74 = n % 4 := by omega
          exact ⟨_, rfl, hm120, hf121, kS_ext e0 e1 e2 e3 e4 e5 e6, (fun j hj => by show (up (up (up (up (up (up (up (m.2.1 62) 30 z74) 29 (HO (m.1 28) z80 6)) 26 z94) 27 z102) 28 z108) 25 z114) 24 z118) j = m.2.1 62 j; rw [up_ne _ (by omega), up_ne _ (by omega), up_ne _ (by omega), up_ne _ (by omega), up_ne _ (by omega), up_ne _ (by omega), up_ne _ (by omega)])⟩
theorem d_isEnd {V : cg_V} {d q : Nat} (hd : 0 ≤ d) (hq : 0 ≤ q) {m : kM} (hm : kI m) {v : Int} (h_v : 0 ≤ v ∧ v ≤ 1) : cg_S V d q mX10_isEnd [vR 61, vI v] (kl m) (R_I (fun z m' => (m = m') ∧ ((z = 1 ∧ ends v (kr3 (m.2.1 62))) ∨ (z = 0 ∧ ¬ ends v (kr3 (m.2.1 62)))))) := by
  refine cg_of (List.mem_of_getElem? (show ae_MT[159]? = some mX10_isEnd from rfl)) (Nat.le_of_ble_eq_true rfl) ?_
  show cg_G V mX10_isEnd d q _ 0 [(0, vR 61), (1, vI v)] [] (kl m) 0 0
  refine g_bipush (by decide) rfl ?_
  refine g_istore_n (n := 2) (lo' := [(0, vR 61), (1, vI v)]) rfl rfl ?_
  refine g_iload_n (n := 1) rfl rfl ?_
  refine g_if_eq (by omega) (by omega) rfl ?_ ?_
  · intro k1
    refine g_aload_n (n := 0) rfl rfl ?_
    refine g_getf (v := vR 62) rfl (kl_61 _) rfl ?_
    refine g_iload_n (n := 2) rfl rfl ?_
    refine g_iconst rfl ?_
    refine g_iaddE (z := 29) (by decide) rfl ?_
    have h2 : (-2147483648) ≤ m.2.1 62 29 ∧ m.2.1 62 29 ≤ 2147483647 := hm.2 62 29 (by decide) (show (29 : Int) < 48 by decide)
    refine g_ialE (f := m.2.1 62) (v := m.2.1 62 29) rfl (kl_62 _) (by decide) (by decide) (by decide) rfl ?_
    refine g_if_ne (by omega) (by omega) rfl ?_ ?_
    · intro k3
      refine g_iconst rfl ?_
      refine g_zret rfl rfl (by omega) ?_
      exact ⟨_, _, rfl, rfl, (by dsimp only [ends, kr3]; omega)⟩
    · intro k4
      refine g_iconst rfl ?_
      refine g_goto rfl ?_
      refine g_zret rfl rfl (by omega) ?_
      exact ⟨_, _, rfl, rfl, (by dsimp only [ends, kr3]; omega)⟩
  · intro k5
    refine g_aload_n (n := 0) rfl rfl ?_
    refine g_getf (v := vR 62) rfl (kl_61 _) rfl ?_
    refine g_iload_n (n := 2) rfl rfl ?_
    refine g_iconst rfl ?_
    refine g_iaddE (z := 24) (by decide) rfl ?_
    have h6 : (-2147483648) ≤ m.2.1 62 24 ∧ m.2.1 62 24 ≤ 2147483647 := hm.2 62 24 (by decide) (show (24 : Int) < 48 by decide)
    refine g_ialE (f := m.2.1 62) (v := m.2.1 62 24) rfl (kl_62 _) (by decide) (by decide) (by decide) rfl ?_
    refine g_if_ne (by omega) (by omega) rfl ?_ ?_
    · intro k7
      refine g_iconst rfl ?_
      refine g_goto rfl ?_
      refine g_zret rfl rfl (by omega) ?_
      exact ⟨_, _, rfl, rfl, (by dsimp only [ends, kr3]; omega)⟩
    · intro k8
      refine g_aload_n (n := 0) rfl rfl ?_
      refine g_getf (v := vR 62) rfl (kl_61 _) rfl ?_
      refine g_iload_n (n := 2) rfl rfl ?_
      refine g_iconst rfl ?_
      refine g_iaddE (z := 24) (by decide) rfl ?_
      refine g_iconst rfl ?_
      refine g_iaddE (z := 25) (by decide) rfl ?_
      have h9 : (-2147483648) ≤ m.2.1 62 25 ∧ m.2.1 62 25 ≤ 2147483647 := hm.2 62 25 (by decide) (show (25 : Int) < 48 by decide)
      refine g_ialE (f := m.2.1 62) (v := m.2.1 62 25) rfl (kl_62 _) (by decide) (by decide) (by decide) rfl ?_
      refine g_if_ne (by omega) (by omega) rfl ?_ ?_
      · intro k10
        refine g_iconst rfl ?_
        refine g_goto rfl ?_
        refine g_zret rfl rfl (by omega) ?_
        exact ⟨_, _, rfl, rfl, (by dsimp only [ends, kr3]; omega)⟩
      · intro k11
        refine g_iconst rfl ?_
        refine g_goto rfl ?_
        refine g_zret rfl rfl (by omega) ?_
        exact ⟨_, _, rfl, rfl, (by dsimp only [ends, kr3]; omega)⟩
theorem d_may {V : cg_V} {d q : Nat} (hd : 0 ≤ d) (hq : 0 ≤ q) {m : kM} (hm : kI m) {c : Int} (h_c : 0 ≤ c ∧ c ≤ 99) (hw : kw (kr3 (m.2.1 62))) : cg_S V d q mX10_may [vR 61, vI c] (kl m) (R_I (fun z m' => (m = m') ∧ (z = 1 ∨ (z = 0 ∧ ((c < 50 ∧ ¬ mayq (m.1 26) (m.2.1 62 26) (m.2.1 62 30) c) ∨ (50 ≤ c ∧ ¬ mayq (m.1 26) (m.2.1 62 27) (m.2.1 62 30) (c - 50))))))) := by
  refine cg_of (List.mem_of_getElem? (show ae_MT[160]? = some mX10_may from rfl)) (Nat.le_of_ble_eq_true rfl) ?_
  show cg_G V mX10_may d q _ 0 [(0, vR 61), (1, vI c)] [] (kl m) 0 0
  have h1 : 0 ≤ m.1 26 ∧ m.1 26 ≤ 10 := hm.1 26
  have w0 : 0 ≤ m.2.1 62 24 ∧ m.2.1 62 24 ≤ 5 := hw.1
  have w1 : 0 ≤ m.2.1 62 25 ∧ m.2.1 62 25 ≤ 5 := hw.2.1
  have w2 : 0 ≤ m.2.1 62 26 ∧ m.2.1 62 26 ≤ 2 := hw.2.2.1
  have w3 : 0 ≤ m.2.1 62 27 ∧ m.2.1 62 27 ≤ 2 := hw.2.2.2.1
  have w4 : (-1) ≤ m.2.1 62 28 ∧ m.2.1 62 28 ≤ 5 := hw.2.2.2.2.1
  have w5 : 0 ≤ m.2.1 62 29 ∧ m.2.1 62 29 ≤ 63 := hw.2.2.2.2.2.1
  have w6 : 0 ≤ m.2.1 62 30 ∧ m.2.1 62 30 ≤ 3 := hw.2.2.2.2.2.2.1
  have w7 : 0 ≤ m.2.1 62 28 ∨ m.2.1 62 26 = 2 ∨ m.2.1 62 27 = 2 := hw.2.2.2.2.2.2.2
  have h2 : c < 50 ∨ 50 ≤ c := by omega
  rcases h2 with h2 | h2
  · refine g_bipush (by decide) rfl ?_
    refine g_istore_n (n := 2) (lo' := [(0, vR 61), (1, vI c)]) rfl rfl ?_
    refine g_iload_n (n := 1) rfl rfl ?_
    refine g_bipush (by decide) rfl ?_
    refine g_iremC (by omega) (by omega) (by decide) (by decide) rfl ?_
    intro z3 h4
    refine g_istore_n (n := 3) (lo' := [(2, vI 24), (0, vR 61), (1, vI c)]) rfl rfl ?_
    refine g_aload_n (n := 0) rfl rfl ?_
    refine g_getf (v := vR 62) rfl (kl_61 _) rfl ?_
    refine g_iload_n (n := 2) rfl rfl ?_
    refine g_iconst rfl ?_
    refine g_iaddE (z := 26) (by decide) rfl ?_
    refine g_iload_n (n := 1) rfl rfl ?_
    refine g_bipush (by decide) rfl ?_
    refine g_idivE (z := 0) (by omega) (by omega) (by decide) (by decide) (by have := i_tdiv (x := c) (y := 50) (by decide); omega) rfl ?_
    refine g_iaddE (z := 26) (by decide) rfl ?_
    refine g_ialE (f := m.2.1 62) (v := m.2.1 62 26) rfl (kl_62 _) (by decide) (by decide) (by decide) rfl ?_
    refine g_istore (n := 4) (lo' := [(3, vI z3), (2, vI 24), (0, vR 61), (1, vI c)]) rfl rfl ?_
    refine g_iload_n (n := 3) rfl rfl ?_
    refine g_iconst rfl ?_
    refine g_icmp_ge (by omega) (by omega) (by decide) (by decide) rfl ?_ ?_
    · intro k5
      refine g_iload_n (n := 3) rfl rfl ?_
      refine g_bipush (by decide) rfl ?_
      refine g_icmp_ge (by omega) (by omega) (by decide) (by decide) rfl ?_ ?_
      · intro k6
        refine g_iconst rfl ?_
        refine g_istore (n := 5) (lo' := [(4, vI (m.2.1 62 26)), (3, vI z3), (2, vI 24), (0, vR 61), (1, vI c)]) rfl rfl ?_
        refine g_iload (n := 5) rfl rfl ?_
        refine g_if_eq (by decide) (by decide) rfl ?_ ?_
        · intro k7
          refine g_iconst rfl ?_
          refine g_zret rfl rfl (by omega) ?_
          refine ⟨_, _, rfl, rfl, Or.inr ⟨rfl, ?_⟩⟩
          unfold mayq
          omega
        · intro k8
          exfalso; omega
      · intro k9
        refine g_iload_n (n := 3) rfl rfl ?_
        refine g_iconst rfl ?_
        refine g_isub rfl ?_
        refine g_bipush (by decide) rfl ?_
        refine g_iremC (by omega) (by omega) (by decide) (by decide) rfl ?_
        intro z10 h11
        refine g_aload_n (n := 0) rfl rfl ?_
        refine g_getf (v := vI (m.1 26)) rfl (kl_61 _) rfl ?_
        refine g_icmp_ge (by omega) (by omega) (by omega) (by omega) rfl ?_ ?_
        · intro k12
          refine g_iconst rfl ?_
          refine g_istore (n := 5) (lo' := [(4, vI (m.2.1 62 26)), (3, vI z3), (2, vI 24), (0, vR 61), (1, vI c)]) rfl rfl ?_
          refine g_iload (n := 5) rfl rfl ?_
          refine g_if_eq (by decide) (by decide) rfl ?_ ?_
          · intro k13
            refine g_iconst rfl ?_
            refine g_zret rfl rfl (by omega) ?_
            refine ⟨_, _, rfl, rfl, Or.inr ⟨rfl, ?_⟩⟩
            unfold mayq
            omega
          · intro k14
            exfalso; omega
        · intro k15
          refine g_iconst rfl ?_
          refine g_goto rfl ?_
          refine g_istore (n := 5) (lo' := [(4, vI (m.2.1 62 26)), (3, vI z3), (2, vI 24), (0, vR 61), (1, vI c)]) rfl rfl ?_
          refine g_iload (n := 5) rfl rfl ?_
          refine g_if_eq (by decide) (by decide) rfl ?_ ?_
          · intro k16
            exfalso; omega
          · intro k17
            refine g_iload_n (n := 3) rfl rfl ?_
            refine g_bipush (by decide) rfl ?_
            refine g_icmp_ge (by omega) (by omega) (by decide) (by decide) rfl ?_ ?_
            · intro k18
              refine g_iload_n (n := 3) rfl rfl ?_
              refine g_bipush (by decide) rfl ?_
              refine g_icmp_ge (by omega) (by omega) (by decide) (by decide) rfl ?_ ?_
              · intro k19
                refine g_iload (n := 4) rfl rfl ?_
                refine g_if_ne (by omega) (by omega) rfl ?_ ?_
                · intro k20
                  refine g_iconst rfl ?_
                  refine g_zret rfl rfl (by omega) ?_
                  refine ⟨_, _, rfl, rfl, Or.inr ⟨rfl, ?_⟩⟩
                  unfold mayq
                  omega
                · intro k21
                  refine g_aload_n (n := 0) rfl rfl ?_
                  refine g_getf (v := vR 62) rfl (kl_61 _) rfl ?_
                  refine g_iload_n (n := 2) rfl rfl ?_
                  refine g_bipush (by decide) rfl ?_
                  refine g_iaddE (z := 30) (by decide) rfl ?_
                  refine g_ialE (f := m.2.1 62) (v := m.2.1 62 30) rfl (kl_62 _) (by decide) (by decide) (by decide) rfl ?_
                  refine g_if_le (by omega) (by omega) rfl ?_ ?_
                  · intro k22
                    refine g_iconst rfl ?_
                    refine g_zret rfl rfl (by omega) ?_
                    refine ⟨_, _, rfl, rfl, Or.inr ⟨rfl, ?_⟩⟩
                    unfold mayq
                    omega
                  · intro k23
                    refine g_iconst rfl ?_
                    refine g_goto rfl ?_
                    refine g_zret rfl rfl (by omega) ?_
                    exact ⟨_, _, rfl, rfl, Or.inl rfl⟩
              · intro k24
                refine g_iload (n := 4) rfl rfl ?_
                refine g_iconst rfl ?_
                refine g_icmp_ne (by omega) (by omega) (by decide) (by decide) rfl ?_ ?_
                · intro k25
                  refine g_iconst rfl ?_
                  refine g_zret rfl rfl (by omega) ?_
                  refine ⟨_, _, rfl, rfl, Or.inr ⟨rfl, ?_⟩⟩
                  unfold mayq
                  omega
                · intro k26
                  refine g_goto rfl ?_
                  refine g_iconst rfl ?_
                  refine g_goto rfl ?_
                  refine g_zret rfl rfl (by omega) ?_
                  exact ⟨_, _, rfl, rfl, Or.inl rfl⟩
            · intro k27
              refine g_iload (n := 4) rfl rfl ?_
              refine g_iconst rfl ?_
              refine g_icmp_ne (by omega) (by omega) (by decide) (by decide) rfl ?_ ?_
              · intro k28
                refine g_iconst rfl ?_
                refine g_zret rfl rfl (by omega) ?_
                refine ⟨_, _, rfl, rfl, Or.inr ⟨rfl, ?_⟩⟩
                unfold mayq
                omega
              · intro k29
                refine g_goto rfl ?_
                refine g_iconst rfl ?_
                refine g_goto rfl ?_
                refine g_zret rfl rfl (by omega) ?_
                exact ⟨_, _, rfl, rfl, Or.inl rfl⟩
    · intro k30
      refine g_iload (n := 4) rfl rfl ?_
      refine g_iload_n (n := 3) rfl rfl ?_
      refine g_iconst rfl ?_
      refine g_icmp_ne (by omega) (by omega) (by decide) (by decide) rfl ?_ ?_
      · intro k31
        refine g_iload_n (n := 3) rfl rfl ?_
        refine g_iconst rfl ?_
        refine g_icmp_ne (by omega) (by omega) (by decide) (by decide) rfl ?_ ?_
        · intro k32
          refine g_iconst rfl ?_
          refine g_icmp_ne (by omega) (by omega) (by decide) (by decide) rfl ?_ ?_
          · intro k33
            refine g_iconst rfl ?_
            refine g_zret rfl rfl (by omega) ?_
            refine ⟨_, _, rfl, rfl, Or.inr ⟨rfl, ?_⟩⟩
            unfold mayq
            omega
          · intro k34
            refine g_iconst rfl ?_
            refine g_goto rfl ?_
            refine g_zret rfl rfl (by omega) ?_
            exact ⟨_, _, rfl, rfl, Or.inl rfl⟩
        · intro k35
          refine g_iconst rfl ?_
          refine g_goto rfl ?_
          refine g_icmp_ne (by omega) (by omega) (by decide) (by decide) rfl ?_ ?_
          · intro k36
            refine g_iconst rfl ?_
            refine g_zret rfl rfl (by omega) ?_
            refine ⟨_, _, rfl, rfl, Or.inr ⟨rfl, ?_⟩⟩
            unfold mayq
            omega
          · intro k37
            refine g_iconst rfl ?_
            refine g_goto rfl ?_
            refine g_zret rfl rfl (by omega) ?_
            exact ⟨_, _, rfl, rfl, Or.inl rfl⟩
      · intro k38
        refine g_iconst rfl ?_
        refine g_goto rfl ?_
        refine g_icmp_ne (by omega) (by omega) (by decide) (by decide) rfl ?_ ?_
        · intro k39
          refine g_iconst rfl ?_
          refine g_zret rfl rfl (by omega) ?_
          refine ⟨_, _, rfl, rfl, Or.inr ⟨rfl, ?_⟩⟩
          unfold mayq
          omega
        · intro k40
          refine g_iconst rfl ?_
          refine g_goto rfl ?_
          refine g_zret rfl rfl (by omega) ?_
          exact ⟨_, _, rfl, rfl, Or.inl rfl⟩
  · refine g_bipush (by decide) rfl ?_
    refine g_istore_n (n := 2) (lo' := [(0, vR 61), (1, vI c)]) rfl rfl ?_
    refine g_iload_n (n := 1) rfl rfl ?_
    refine g_bipush (by decide) rfl ?_
    refine g_iremC (by omega) (by omega) (by decide) (by decide) rfl ?_
    intro z41 h42
    refine g_istore_n (n := 3) (lo' := [(2, vI 24), (0, vR 61), (1, vI c)]) rfl rfl ?_
    refine g_aload_n (n := 0) rfl rfl ?_
    refine g_getf (v := vR 62) rfl (kl_61 _) rfl ?_
    refine g_iload_n (n := 2) rfl rfl ?_
    refine g_iconst rfl ?_
    refine g_iaddE (z := 26) (by decide) rfl ?_
    refine g_iload_n (n := 1) rfl rfl ?_
    refine g_bipush (by decide) rfl ?_
    refine g_idivE (z := 1) (by omega) (by omega) (by decide) (by decide) (by have := i_tdiv (x := c) (y := 50) (by decide); omega) rfl ?_
    refine g_iaddE (z := 27) (by decide) rfl ?_
    refine g_ialE (f := m.2.1 62) (v := m.2.1 62 27) rfl (kl_62 _) (by decide) (by decide) (by decide) rfl ?_
    refine g_istore (n := 4) (lo' := [(3, vI z41), (2, vI 24), (0, vR 61), (1, vI c)]) rfl rfl ?_
    refine g_iload_n (n := 3) rfl rfl ?_
    refine g_iconst rfl ?_
    refine g_icmp_ge (by omega) (by omega) (by decide) (by decide) rfl ?_ ?_
    · intro k43
      refine g_iload_n (n := 3) rfl rfl ?_
      refine g_bipush (by decide) rfl ?_
      refine g_icmp_ge (by omega) (by omega) (by decide) (by decide) rfl ?_ ?_
      · intro k44
        refine g_iconst rfl ?_
        refine g_istore (n := 5) (lo' := [(4, vI (m.2.1 62 27)), (3, vI z41), (2, vI 24), (0, vR 61), (1, vI c)]) rfl rfl ?_
        refine g_iload (n := 5) rfl rfl ?_
        refine g_if_eq (by decide) (by decide) rfl ?_ ?_
        · intro k45
          refine g_iconst rfl ?_
          refine g_zret rfl rfl (by omega) ?_
          refine ⟨_, _, rfl, rfl, Or.inr ⟨rfl, ?_⟩⟩
          unfold mayq
          omega
        · intro k46
          exfalso; omega
      · intro k47
        refine g_iload_n (n := 3) rfl rfl ?_
        refine g_iconst rfl ?_
        refine g_isub rfl ?_
        refine g_bipush (by decide) rfl ?_
        refine g_iremC (by omega) (by omega) (by decide) (by decide) rfl ?_
        intro z48 h49
        refine g_aload_n (n := 0) rfl rfl ?_
        refine g_getf (v := vI (m.1 26)) rfl (kl_61 _) rfl ?_
        refine g_icmp_ge (by omega) (by omega) (by omega) (by omega) rfl ?_ ?_
        · intro k50
          refine g_iconst rfl ?_
          refine g_istore (n := 5) (lo' := [(4, vI (m.2.1 62 27)), (3, vI z41), (2, vI 24), (0, vR 61), (1, vI c)]) rfl rfl ?_
          refine g_iload (n := 5) rfl rfl ?_
          refine g_if_eq (by decide) (by decide) rfl ?_ ?_
          · intro k51
            refine g_iconst rfl ?_
            refine g_zret rfl rfl (by omega) ?_
            refine ⟨_, _, rfl, rfl, Or.inr ⟨rfl, ?_⟩⟩
            unfold mayq
            omega
          · intro k52
            exfalso; omega
        · intro k53
          refine g_iconst rfl ?_
          refine g_goto rfl ?_
          refine g_istore (n := 5) (lo' := [(4, vI (m.2.1 62 27)), (3, vI z41), (2, vI 24), (0, vR 61), (1, vI c)]) rfl rfl ?_
          refine g_iload (n := 5) rfl rfl ?_
          refine g_if_eq (by decide) (by decide) rfl ?_ ?_
          · intro k54
            exfalso; omega
          · intro k55
            refine g_iload_n (n := 3) rfl rfl ?_
            refine g_bipush (by decide) rfl ?_
            refine g_icmp_ge (by omega) (by omega) (by decide) (by decide) rfl ?_ ?_
            · intro k56
              refine g_iload_n (n := 3) rfl rfl ?_
              refine g_bipush (by decide) rfl ?_
              refine g_icmp_ge (by omega) (by omega) (by decide) (by decide) rfl ?_ ?_
              · intro k57
                refine g_iload (n := 4) rfl rfl ?_
                refine g_if_ne (by omega) (by omega) rfl ?_ ?_
                · intro k58
                  refine g_iconst rfl ?_
                  refine g_zret rfl rfl (by omega) ?_
                  refine ⟨_, _, rfl, rfl, Or.inr ⟨rfl, ?_⟩⟩
                  unfold mayq
                  omega
                · intro k59
                  refine g_aload_n (n := 0) rfl rfl ?_
                  refine g_getf (v := vR 62) rfl (kl_61 _) rfl ?_
                  refine g_iload_n (n := 2) rfl rfl ?_
                  refine g_bipush (by decide) rfl ?_
                  refine g_iaddE (z := 30) (by decide) rfl ?_
                  refine g_ialE (f := m.2.1 62) (v := m.2.1 62 30) rfl (kl_62 _) (by decide) (by decide) (by decide) rfl ?_
                  refine g_if_le (by omega) (by omega) rfl ?_ ?_
                  · intro k60
                    refine g_iconst rfl ?_
                    refine g_zret rfl rfl (by omega) ?_
                    refine ⟨_, _, rfl, rfl, Or.inr ⟨rfl, ?_⟩⟩
                    unfold mayq
                    omega
                  · intro k61
                    refine g_iconst rfl ?_
                    refine g_goto rfl ?_
                    refine g_zret rfl rfl (by omega) ?_
                    exact ⟨_, _, rfl, rfl, Or.inl rfl⟩
              · intro k62
                refine g_iload (n := 4) rfl rfl ?_
                refine g_iconst rfl ?_
                refine g_icmp_ne (by omega) (by omega) (by decide) (by decide) rfl ?_ ?_
                · intro k63
                  refine g_iconst rfl ?_
                  refine g_zret rfl rfl (by omega) ?_
                  refine ⟨_, _, rfl, rfl, Or.inr ⟨rfl, ?_⟩⟩
                  unfold mayq
                  omega
                · intro k64
                  refine g_goto rfl ?_
                  refine g_iconst rfl ?_
                  refine g_goto rfl ?_
                  refine g_zret rfl rfl (by omega) ?_
                  exact ⟨_, _, rfl, rfl, Or.inl rfl⟩
            · intro k65
              refine g_iload (n := 4) rfl rfl ?_
              refine g_iconst rfl ?_
              refine g_icmp_ne (by omega) (by omega) (by decide) (by decide) rfl ?_ ?_
              · intro k66
                refine g_iconst rfl ?_
                refine g_zret rfl rfl (by omega) ?_
                refine ⟨_, _, rfl, rfl, Or.inr ⟨rfl, ?_⟩⟩
                unfold mayq
                omega
              · intro k67
                refine g_goto rfl ?_
                refine g_iconst rfl ?_
                refine g_goto rfl ?_
                refine g_zret rfl rfl (by omega) ?_
                exact ⟨_, _, rfl, rfl, Or.inl rfl⟩
    · intro k68
      refine g_iload (n := 4) rfl rfl ?_
      refine g_iload_n (n := 3) rfl rfl ?_
      refine g_iconst rfl ?_
      refine g_icmp_ne (by omega) (by omega) (by decide) (by decide) rfl ?_ ?_
      · intro k69
        refine g_iload_n (n := 3) rfl rfl ?_
        refine g_iconst rfl ?_
        refine g_icmp_ne (by omega) (by omega) (by decide) (by decide) rfl ?_ ?_
        · intro k70
          refine g_iconst rfl ?_
          refine g_icmp_ne (by omega) (by omega) (by decide) (by decide) rfl ?_ ?_
          · intro k71
            refine g_iconst rfl ?_
            refine g_zret rfl rfl (by omega) ?_
            refine ⟨_, _, rfl, rfl, Or.inr ⟨rfl, ?_⟩⟩
            unfold mayq
            omega
          · intro k72
            refine g_iconst rfl ?_
            refine g_goto rfl ?_
            refine g_zret rfl rfl (by omega) ?_
            exact ⟨_, _, rfl, rfl, Or.inl rfl⟩
        · intro k73
          refine g_iconst rfl ?_
          refine g_goto rfl ?_
          refine g_icmp_ne (by omega) (by omega) (by decide) (by decide) rfl ?_ ?_
          · intro k74
            refine g_iconst rfl ?_
            refine g_zret rfl rfl (by omega) ?_
            refine ⟨_, _, rfl, rfl, Or.inr ⟨rfl, ?_⟩⟩
            unfold mayq
            omega
          · intro k75
            refine g_iconst rfl ?_
            refine g_goto rfl ?_
            refine g_zret rfl rfl (by omega) ?_
            exact ⟨_, _, rfl, rfl, Or.inl rfl⟩
      · intro k76
        refine g_iconst rfl ?_
        refine g_goto rfl ?_
        refine g_icmp_ne (by omega) (by omega) (by decide) (by decide) rfl ?_ ?_
        · intro k77
          refine g_iconst rfl ?_
          refine g_zret rfl rfl (by omega) ?_
          refine ⟨_, _, rfl, rfl, Or.inr ⟨rfl, ?_⟩⟩
          unfold mayq
          omega
        · intro k78
          refine g_iconst rfl ?_
          refine g_goto rfl ?_
          refine g_zret rfl rfl (by omega) ?_
          exact ⟨_, _, rfl, rfl, Or.inl rfl⟩
theorem d_tries {V : cg_V} {d q : Nat} (hd : 3 ≤ d) (hq : 79 ≤ q) {m : kM} (hm : kI m) {c : Int} (h_c : 0 ≤ c ∧ c ≤ 99) (hw : kw (kr3 (m.2.1 62))) : cg_S V d q mX10_tries [vR 61, vI c] (kl m) (R_I (fun z m' => (kI m') ∧ (fr [] [62] m m') ∧ ((z = 1 ∧ stp (m.2.1 66) (m.1 26) (m.1 27) (kr3 (m.2.1 62)) c = some (kr4 (m'.2.1 62))) ∨ (z = 0 ∧ stp (m.2.1 66) (m.1 26) (m.1 27) (kr3 (m.2.1 62)) c = none)) ∧ (∀ j : Int, (j < 32 ∨ 40 ≤ j) → m'.2.1 62 j = m.2.1 62 j))) := by
  have hf0 : fr [] [62] m m := fr_rf m
  refine cg_of (List.mem_of_getElem? (show ae_MT[161]? = some mX10_tries from rfl)) (Nat.le_of_ble_eq_true rfl) ?_
  show cg_G V mX10_tries d q _ 0 [(0, vR 61), (1, vI c)] [] (kl m) 0 0
  have h1 : 0 ≤ m.1 26 ∧ m.1 26 ≤ 10 := hm.1 26
  have h2 : 0 ≤ m.1 27 ∧ m.1 27 ≤ 5 := hm.1 27
  refine g_aload_n (n := 0) rfl rfl ?_
  refine g_iload_n (n := 1) rfl rfl ?_
  refine c_vI (i := 61) (ps := [vI c]) (r := []) (as := [vR 61, vI c]) (cs' := 0) (sl' := 0) rfl rfl rfl rfl rfl rfl (kl_61 _) (d_may (d := d - 1) (q := q - (6 + 19)) (by omega) (by omega) hm (c := c) (show 0 ≤ c ∧ c ≤ 99 by omega) hw) (by omega) (show 6 + 19 ≤ q by omega) (Nat.le_of_ble_eq_true rfl) (Nat.le_of_ble_eq_true rfl) rfl rfl rfl ?_
  rintro z3 m4 ⟨rfl, p6⟩
  refine g_if_ne (by omega) (by omega) rfl ?_ ?_
  · intro k7
    refine g_aload_n (n := 0) rfl rfl ?_
    refine g_iconst rfl ?_
    refine g_iconst rfl ?_
    refine c_vV (i := 61) (ps := [vI 4, vI 3]) (r := []) (as := [vR 61, vI 3, vI 4]) (cs' := 0) (sl' := 0) rfl rfl rfl rfl rfl rfl (kl_61 _) (d_copy_3_4 (d := d - 1) (q := q - (4 + 19)) (by omega) (by omega) hm  ) (by omega) (show 4 + 19 ≤ q by omega) (Nat.le_of_ble_eq_true rfl) (Nat.le_of_ble_eq_true rfl) rfl rfl rfl ?_
    rintro m9 ⟨hm11, hc12, p13, p14⟩
    have hf15 : fr [] [62] m m9 := fr_tr hf0 (fr_le hc12 rfl rfl)
    have h16 : m9.1 26 = m.1 26 := hc12.1 26 rfl
    have h17 : 0 ≤ m9.1 26 ∧ m9.1 26 ≤ 10 := hm11.1 26
    have h18 : m9.1 27 = m.1 27 := hc12.1 27 rfl
    have h19 : 0 ≤ m9.1 27 ∧ m9.1 27 ≤ 5 := hm11.1 27
    refine g_aload_n (n := 0) rfl rfl ?_
    refine g_iconst rfl ?_
    refine g_iload_n (n := 1) rfl rfl ?_
    refine c_vI (i := 61) (ps := [vI c, vI 4]) (r := []) (as := [vR 61, vI 4, vI c]) (cs' := 0) (sl' := 0) rfl rfl rfl rfl rfl rfl (kl_61 _) (d_does_4 (d := d - 1) (q := q - (7 + 19)) (by omega) (by omega) hm11 (c := c) (show (-1) ≤ c ∧ c ≤ 99 by omega) (by rw [p13]; exact hw)) (by omega) (show 7 + 19 ≤ q by omega) (Nat.le_of_ble_eq_true rfl) (Nat.le_of_ble_eq_true rfl) rfl rfl rfl ?_
    rintro z20 m21 ⟨hm23, hc24, p25, p26⟩
    have hf27 : fr [] [62] m m21 := fr_tr hf15 (fr_le hc24 rfl rfl)
    have h28 : m21.1 26 = m9.1 26 := hc24.1 26 rfl
    have h29 : 0 ≤ m21.1 26 ∧ m21.1 26 ≤ 10 := hm23.1 26
    have h30 : m21.1 27 = m9.1 27 := hc24.1 27 rfl
    have h31 : 0 ≤ m21.1 27 ∧ m21.1 27 ≤ 5 := hm23.1 27
    refine g_zret rfl rfl (by omega) ?_
    have hk : m9.1 26 = m.1 26 := hc12.1 26 rfl
    have hq : m9.1 27 = m.1 27 := hc12.1 27 rfl
    have hD : m9.2.1 66 = m.2.1 66 := hc12.2.1 66 rfl
    rw [hk, hq, hD, p13] at p25
    exact ⟨_, _, rfl, hm23, hf27, p25.imp id (fun y => ⟨y.1, y.2.1⟩), fun j hj => (p26 j (by omega)).trans (p14 j (by omega))⟩
  · intro k32
    refine g_iconst rfl ?_
    refine g_zret rfl rfl (by omega) ?_
    exact ⟨_, _, rfl, hm, hf0, Or.inr ⟨rfl, may_none h_c.1 h_c.2 (p6.resolve_left (by omega)).2⟩, fun j hj => rfl⟩
