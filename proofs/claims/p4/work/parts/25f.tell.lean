/-! ===== contracts: the model, what was told is done ===== -/
/-- what the model holds of doors and of the key -/
def DY (m : kM) (g : kY) : Prop := (∀ j : Int, 0 ≤ j → j < m.1 26 → m.2.1 66 (4 * j) = g.1 j ∧ m.2.1 66 (4 * j + 1) = g.2.1 j ∧ m.2.1 66 (4 * j + 2) = g.2.2.1 j ∧ m.2.1 66 (4 * j + 3) = g.2.2.2.1 j) ∧ m.1 30 = g.2.2.2.2
theorem DY_of {m m' : kM} {g : kY} (e : m'.1 26 = m.1 26) (f : m'.2.1 66 = m.2.1 66) (k : m'.1 30 = m.1 30) (h : DY m g) : DY m' g := by
  unfold DY
  rw [e, f, k]
  exact h
theorem DY_up {m m' : kM} {g : kY} {a b c d D : Int} {f : Int → Int} (hD : m.1 26 = D) (h26 : m'.1 26 = D + 1) (h66 : m'.2.1 66 = up (up (up (up f (4 * D) a) (4 * D + 1) b) (4 * D + 2) c) (4 * D + 3) d) (hf : m.2.1 66 = f) (h30 : m'.1 30 = m.1 30) (h : DY m g) : DY m' (up g.1 D a, up g.2.1 D b, up g.2.2.1 D c, up g.2.2.2.1 D d, g.2.2.2.2) := by
  refine ⟨fun j h0 h1 => ?_, h30.trans h.2⟩
  rw [h26] at h1
  rw [h66]
  by_cases q : j = D
  · subst q
    refine ⟨?_, ?_, ?_, ?_⟩
    · rw [up_ne _ (by omega), up_ne _ (by omega), up_ne _ (by omega), up_same]
      exact (up_same _ _ _).symm
    · rw [up_ne _ (by omega), up_ne _ (by omega), up_same]
      exact (up_same _ _ _).symm
    · rw [up_ne _ (by omega), up_same]
      exact (up_same _ _ _).symm
    · rw [up_same]
      exact (up_same _ _ _).symm
  · have h9 := h.1 j h0 (by omega)
    rw [hf] at h9
    refine ⟨?_, ?_, ?_, ?_⟩
    · rw [up_ne _ (by omega), up_ne _ (by omega), up_ne _ (by omega), up_ne _ (by omega)]
      exact h9.1.trans (up_ne _ q).symm
    · rw [up_ne _ (by omega), up_ne _ (by omega), up_ne _ (by omega), up_ne _ (by omega)]
      exact h9.2.1.trans (up_ne _ q).symm
    · rw [up_ne _ (by omega), up_ne _ (by omega), up_ne _ (by omega), up_ne _ (by omega)]
      exact h9.2.2.1.trans (up_ne _ q).symm
    · rw [up_ne _ (by omega), up_ne _ (by omega), up_ne _ (by omega), up_ne _ (by omega)]
      exact h9.2.2.2.trans (up_ne _ q).symm
theorem d_clear {V : cg_V} {d q : Nat} (hd : 0 ≤ d) (hq : 0 ≤ q) {m : kM} (hm : kI m) {r : Int} (h_r : 2 ≤ r ∧ r ≤ 6) : cg_S V d q mX10_clear [vR 61, vI r] (kl m) (R_V (fun m' => (kI m') ∧ (fr [25, 26, 27, 28, 29, 30] [67] m m') ∧ (m'.1 25 = r) ∧ (m'.1 26 = 0) ∧ (m'.1 28 = 0) ∧ (m'.1 30 = 0))) := by
  have hf0 : fr [25, 26, 27, 28, 29, 30] [67] m m := fr_rf m
  refine cg_of (List.mem_of_getElem? (show ae_MT[135]? = some mX10_clear from rfl)) (Nat.le_of_ble_eq_true rfl) ?_
  show cg_G V mX10_clear d q _ 0 [(0, vR 61), (1, vI r)] [] (kl m) 0 0
  refine g_aload_n (n := 0) rfl rfl ?_
  refine g_iload_n (n := 1) rfl rfl ?_
  refine g_putF (m' := (kF m 25 r)) rfl (kl_61 _) rfl rfl rfl rfl (kF_25 _ _) ?_
  have hm1 : kI (kF m 25 r) := kI_F hm 25 (show (2 : Int) ≤ r by omega) (show r ≤ (6 : Int) by omega)
  have hf2 : fr [25, 26, 27, 28, 29, 30] [67] m (kF m 25 r) := fr_F hf0 25 _ rfl
  refine g_aload_n (n := 0) rfl rfl ?_
  refine g_iconst rfl ?_
  refine g_putF (m' := (kF (kF m 25 r) 26 0)) rfl (kl_61 _) rfl rfl rfl rfl (kF_26 _ _) ?_
  have hm3 : kI (kF (kF m 25 r) 26 0) := kI_F hm1 26 (show (0 : Int) ≤ 0 by omega) (show 0 ≤ (10 : Int) by omega)
  have hf4 : fr [25, 26, 27, 28, 29, 30] [67] m (kF (kF m 25 r) 26 0) := fr_F hf2 26 _ rfl
  refine g_aload_n (n := 0) rfl rfl ?_
  refine g_iconst rfl ?_
  refine g_putF (m' := (kF (kF (kF m 25 r) 26 0) 27 0)) rfl (kl_61 _) rfl rfl rfl rfl (kF_27 _ _) ?_
  have hm5 : kI (kF (kF (kF m 25 r) 26 0) 27 0) := kI_F hm3 27 (show (0 : Int) ≤ 0 by omega) (show 0 ≤ (5 : Int) by omega)
  have hf6 : fr [25, 26, 27, 28, 29, 30] [67] m (kF (kF (kF m 25 r) 26 0) 27 0) := fr_F hf4 27 _ rfl
  refine g_aload_n (n := 0) rfl rfl ?_
  refine g_iconst rfl ?_
  refine g_putF (m' := (kF (kF (kF (kF m 25 r) 26 0) 27 0) 28 0)) rfl (kl_61 _) rfl rfl rfl rfl (kF_28 _ _) ?_
  have hm7 : kI (kF (kF (kF (kF m 25 r) 26 0) 27 0) 28 0) := kI_F hm5 28 (show (0 : Int) ≤ 0 by omega) (show 0 ≤ (63 : Int) by omega)
  have hf8 : fr [25, 26, 27, 28, 29, 30] [67] m (kF (kF (kF (kF m 25 r) 26 0) 27 0) 28 0) := fr_F hf6 28 _ rfl
  refine g_aload_n (n := 0) rfl rfl ?_
  refine g_iconst rfl ?_
  refine g_putF (m' := (kF (kF (kF (kF (kF m 25 r) 26 0) 27 0) 28 0) 29 0)) rfl (kl_61 _) rfl rfl rfl rfl (kF_29 _ _) ?_
  have hm9 : kI (kF (kF (kF (kF (kF m 25 r) 26 0) 27 0) 28 0) 29 0) := kI_F hm7 29 (show (0 : Int) ≤ 0 by omega) (show 0 ≤ (3 : Int) by omega)
  have hf10 : fr [25, 26, 27, 28, 29, 30] [67] m (kF (kF (kF (kF (kF m 25 r) 26 0) 27 0) 28 0) 29 0) := fr_F hf8 29 _ rfl
  refine g_aload_n (n := 0) rfl rfl ?_
  refine g_iconst rfl ?_
  refine g_putF (m' := (kF (kF (kF (kF (kF (kF m 25 r) 26 0) 27 0) 28 0) 29 0) 30 0)) rfl (kl_61 _) rfl rfl rfl rfl (kF_30 _ _) ?_
  have hm11 : kI (kF (kF (kF (kF (kF (kF m 25 r) 26 0) 27 0) 28 0) 29 0) 30 0) := kI_F hm9 30 (show (0 : Int) ≤ 0 by omega) (show 0 ≤ (5 : Int) by omega)
  have hf12 : fr [25, 26, 27, 28, 29, 30] [67] m (kF (kF (kF (kF (kF (kF m 25 r) 26 0) 27 0) 28 0) 29 0) 30 0) := fr_F hf10 30 _ rfl
  refine g_aload_n (n := 0) rfl rfl ?_
  refine g_getf (v := vR 67) rfl (kl_61 _) rfl ?_
  refine g_iconst rfl ?_
  refine g_iconst rfl ?_
  refine g_iAst (f := m.2.1 67) (m' := (kA (kF (kF (kF (kF (kF (kF m 25 r) 26 0) 27 0) 28 0) 29 0) 30 0) 67 (up (m.2.1 67) 0 0))) rfl (kl_67 _) (by decide) (by omega) (by omega) (kA_67 _ _) ?_
  have hm13 : kI (kA (kF (kF (kF (kF (kF (kF m 25 r) 26 0) 27 0) 28 0) 29 0) 30 0) 67 (up (m.2.1 67) 0 0)) := kI_U hm11 67 rfl (show (0 : Int) ≤ 0 by omega) (show 0 ≤ (5 : Int) by omega)
  have hf14 : fr [25, 26, 27, 28, 29, 30] [67] m (kA (kF (kF (kF (kF (kF (kF m 25 r) 26 0) 27 0) 28 0) 29 0) 30 0) 67 (up (m.2.1 67) 0 0)) := fr_A hf12 67 _ rfl
  refine g_aload_n (n := 0) rfl rfl ?_
  refine g_getf (v := vR 67) rfl (kl_61 _) rfl ?_
  refine g_iconst rfl ?_
  refine g_iconst rfl ?_
  refine g_iAst (f := up (m.2.1 67) 0 0) (m' := (kA (kA (kF (kF (kF (kF (kF (kF m 25 r) 26 0) 27 0) 28 0) 29 0) 30 0) 67 (up (m.2.1 67) 0 0)) 67 (up (up (m.2.1 67) 0 0) 1 0))) rfl (kl_67 _) (by decide) (by omega) (by omega) (kA_67 _ _) ?_
  have hm15 : kI (kA (kA (kF (kF (kF (kF (kF (kF m 25 r) 26 0) 27 0) 28 0) 29 0) 30 0) 67 (up (m.2.1 67) 0 0)) 67 (up (up (m.2.1 67) 0 0) 1 0)) := kI_U hm13 67 rfl (show (0 : Int) ≤ 0 by omega) (show 0 ≤ (5 : Int) by omega)
  have hf16 : fr [25, 26, 27, 28, 29, 30] [67] m (kA (kA (kF (kF (kF (kF (kF (kF m 25 r) 26 0) 27 0) 28 0) 29 0) 30 0) 67 (up (m.2.1 67) 0 0)) 67 (up (up (m.2.1 67) 0 0) 1 0)) := fr_A hf14 67 _ rfl
  refine g_vret rfl rfl ?_
  exact ⟨_, rfl, hm15, hf16, rfl, rfl, rfl, rfl⟩
theorem d_tellDoor {V : cg_V} {d q : Nat} (hd : 0 ≤ d) (hq : 0 ≤ q) {m : kM} (hm : kI m) {b : Int} (h_b : 0 ≤ b ∧ b ≤ 36) (h_kD : kD m) (hv : m.1 26 < 10 ∧ (1 ≤ m.2.1 65 b ∧ m.2.1 65 b ≤ 6) ∧ (0 ≤ m.2.1 65 (b + 1) ∧ m.2.1 65 (b + 1) ≤ 5 ∧ 0 ≤ m.2.1 65 (b + 2) ∧ m.2.1 65 (b + 2) ≤ 5) ∧ m.2.1 65 (b + 1) ≠ m.2.1 65 (b + 2) ∧ 0 ≤ m.2.1 65 (b + 3) ∧ m.2.1 65 (b + 3) ≤ 1) : cg_S V d q mX10_tellDoor [vR 61, vI b] (kl m) (R_V (fun m' => (kI m') ∧ (fr [26] [66] m m') ∧ (m'.1 26 = m.1 26 + 1) ∧ (kD m') ∧ (∀ g : kY, DY m g → DY m' (up g.1 (m.1 26) (m.2.1 65 (b + 1)), up g.2.1 (m.1 26) (m.2.1 65 (b + 2)), up g.2.2.1 (m.1 26) (m.2.1 65 b - 1), up g.2.2.2.1 (m.1 26) (m.2.1 65 (b + 3)), g.2.2.2.2)))) := by
  have hf0 : fr [26] [66] m m := fr_rf m
  refine cg_of (List.mem_of_getElem? (show ae_MT[136]? = some mX10_tellDoor from rfl)) (Nat.le_of_ble_eq_true rfl) ?_
  show cg_G V mX10_tellDoor d q _ 0 [(0, vR 61), (1, vI b)] [] (kl m) 0 0
  have h1 : 0 ≤ m.1 26 ∧ m.1 26 ≤ 10 := hm.1 26
  refine g_aload_n (n := 0) rfl rfl ?_
  refine g_getf (v := vR 66) rfl (kl_61 _) rfl ?_
  refine g_iconst rfl ?_
  refine g_aload_n (n := 0) rfl rfl ?_
  refine g_getf (v := vI (m.1 26)) rfl (kl_61 _) rfl ?_
  refine g_imul rfl ?_
  refine g_aload_n (n := 0) rfl rfl ?_
  refine g_getf (v := vR 65) rfl (kl_61 _) rfl ?_
  refine g_iload_n (n := 1) rfl rfl ?_
  refine g_iconst rfl ?_
  refine g_iadd rfl ?_
  have h2 : (-2147483648) ≤ m.2.1 65 (b + 1) ∧ m.2.1 65 (b + 1) ≤ 2147483647 := hm.2 65 (b + 1) (by omega) (show (b + 1) < (40 : Int) by omega)
  refine g_iald (f := m.2.1 65) rfl (kl_65 _) (by decide) (by omega) (by omega) ?_
  refine g_iAst (f := m.2.1 66) (m' := (kA m 66 (up (m.2.1 66) (4 * m.1 26) (m.2.1 65 (b + 1))))) rfl (kl_66 _) (by decide) (by omega) (by omega) (kA_66 _ _) ?_
  have hm3 : kI (kA m 66 (up (m.2.1 66) (4 * m.1 26) (m.2.1 65 (b + 1)))) := kI_U hm 66 rfl (show (0 : Int) ≤ m.2.1 65 (b + 1) by omega) (show m.2.1 65 (b + 1) ≤ (5 : Int) by omega)
  have hf4 : fr [26] [66] m (kA m 66 (up (m.2.1 66) (4 * m.1 26) (m.2.1 65 (b + 1)))) := fr_A hf0 66 _ rfl
  refine g_aload_n (n := 0) rfl rfl ?_
  refine g_getf (v := vR 66) rfl (kl_61 _) rfl ?_
  refine g_iconst rfl ?_
  refine g_aload_n (n := 0) rfl rfl ?_
  refine g_getf (v := vI (m.1 26)) rfl (kl_61 _) rfl ?_
  refine g_imul rfl ?_
  refine g_iconst rfl ?_
  refine g_iadd rfl ?_
  refine g_aload_n (n := 0) rfl rfl ?_
  refine g_getf (v := vR 65) rfl (kl_61 _) rfl ?_
  refine g_iload_n (n := 1) rfl rfl ?_
  refine g_iconst rfl ?_
  refine g_iadd rfl ?_
  have h5 : (-2147483648) ≤ m.2.1 65 (b + 2) ∧ m.2.1 65 (b + 2) ≤ 2147483647 := hm3.2 65 (b + 2) (by omega) (show (b + 2) < (40 : Int) by omega)
  refine g_iald (f := m.2.1 65) rfl (kl_65 _) (by decide) (by omega) (by omega) ?_
  refine g_iAst (f := up (m.2.1 66) (4 * m.1 26) (m.2.1 65 (b + 1))) (m' := (kA (kA m 66 (up (m.2.1 66) (4 * m.1 26) (m.2.1 65 (b + 1)))) 66 (up (up (m.2.1 66) (4 * m.1 26) (m.2.1 65 (b + 1))) ((4 * m.1 26) + 1) (m.2.1 65 (b + 2))))) rfl (kl_66 _) (by decide) (by omega) (by omega) (kA_66 _ _) ?_
  have hm6 : kI (kA (kA m 66 (up (m.2.1 66) (4 * m.1 26) (m.2.1 65 (b + 1)))) 66 (up (up (m.2.1 66) (4 * m.1 26) (m.2.1 65 (b + 1))) ((4 * m.1 26) + 1) (m.2.1 65 (b + 2)))) := kI_U hm3 66 rfl (show (0 : Int) ≤ m.2.1 65 (b + 2) by omega) (show m.2.1 65 (b + 2) ≤ (5 : Int) by omega)
  have hf7 : fr [26] [66] m (kA (kA m 66 (up (m.2.1 66) (4 * m.1 26) (m.2.1 65 (b + 1)))) 66 (up (up (m.2.1 66) (4 * m.1 26) (m.2.1 65 (b + 1))) ((4 * m.1 26) + 1) (m.2.1 65 (b + 2)))) := fr_A hf4 66 _ rfl
  refine g_aload_n (n := 0) rfl rfl ?_
  refine g_getf (v := vR 66) rfl (kl_61 _) rfl ?_
  refine g_iconst rfl ?_
  refine g_aload_n (n := 0) rfl rfl ?_
  refine g_getf (v := vI (m.1 26)) rfl (kl_61 _) rfl ?_
  refine g_imul rfl ?_
  refine g_iconst rfl ?_
  refine g_iadd rfl ?_
  refine g_aload_n (n := 0) rfl rfl ?_
  refine g_getf (v := vR 65) rfl (kl_61 _) rfl ?_
  refine g_iload_n (n := 1) rfl rfl ?_
  have h8 : (-2147483648) ≤ m.2.1 65 b ∧ m.2.1 65 b ≤ 2147483647 := hm6.2 65 b (by omega) (show b < (40 : Int) by omega)
  refine g_iald (f := m.2.1 65) rfl (kl_65 _) (by decide) (by omega) (by omega) ?_
  refine g_iconst rfl ?_
  refine g_isub rfl ?_
  refine g_nrm ?_
  intro z9 h10 h11 h12 h13
  refine g_iAst (f := up (up (m.2.1 66) (4 * m.1 26) (m.2.1 65 (b + 1))) ((4 * m.1 26) + 1) (m.2.1 65 (b + 2))) (m' := (kA (kA (kA m 66 (up (m.2.1 66) (4 * m.1 26) (m.2.1 65 (b + 1)))) 66 (up (up (m.2.1 66) (4 * m.1 26) (m.2.1 65 (b + 1))) ((4 * m.1 26) + 1) (m.2.1 65 (b + 2)))) 66 (up (up (up (m.2.1 66) (4 * m.1 26) (m.2.1 65 (b + 1))) ((4 * m.1 26) + 1) (m.2.1 65 (b + 2))) ((4 * m.1 26) + 2) z9))) rfl (kl_66 _) (by decide) (by omega) (by omega) (kA_66 _ _) ?_
  have hm14 : kI (kA (kA (kA m 66 (up (m.2.1 66) (4 * m.1 26) (m.2.1 65 (b + 1)))) 66 (up (up (m.2.1 66) (4 * m.1 26) (m.2.1 65 (b + 1))) ((4 * m.1 26) + 1) (m.2.1 65 (b + 2)))) 66 (up (up (up (m.2.1 66) (4 * m.1 26) (m.2.1 65 (b + 1))) ((4 * m.1 26) + 1) (m.2.1 65 (b + 2))) ((4 * m.1 26) + 2) z9)) := kI_U hm6 66 rfl (show (0 : Int) ≤ z9 by omega) (show z9 ≤ (5 : Int) by omega)
  have hf15 : fr [26] [66] m (kA (kA (kA m 66 (up (m.2.1 66) (4 * m.1 26) (m.2.1 65 (b + 1)))) 66 (up (up (m.2.1 66) (4 * m.1 26) (m.2.1 65 (b + 1))) ((4 * m.1 26) + 1) (m.2.1 65 (b + 2)))) 66 (up (up (up (m.2.1 66) (4 * m.1 26) (m.2.1 65 (b + 1))) ((4 * m.1 26) + 1) (m.2.1 65 (b + 2))) ((4 * m.1 26) + 2) z9)) := fr_A hf7 66 _ rfl
  refine g_aload_n (n := 0) rfl rfl ?_
  refine g_getf (v := vR 66) rfl (kl_61 _) rfl ?_
  refine g_iconst rfl ?_
  refine g_aload_n (n := 0) rfl rfl ?_
  refine g_getf (v := vI (m.1 26)) rfl (kl_61 _) rfl ?_
  refine g_imul rfl ?_
  refine g_iconst rfl ?_
  refine g_iadd rfl ?_
  refine g_aload_n (n := 0) rfl rfl ?_
  refine g_getf (v := vR 65) rfl (kl_61 _) rfl ?_
  refine g_iload_n (n := 1) rfl rfl ?_
  refine g_iconst rfl ?_
  refine g_iadd rfl ?_
  have h16 : (-2147483648) ≤ m.2.1 65 (b + 3) ∧ m.2.1 65 (b + 3) ≤ 2147483647 := hm14.2 65 (b + 3) (by omega) (show (b + 3) < (40 : Int) by omega)
  refine g_iald (f := m.2.1 65) rfl (kl_65 _) (by decide) (by omega) (by omega) ?_
  refine g_iAst (f := up (up (up (m.2.1 66) (4 * m.1 26) (m.2.1 65 (b + 1))) ((4 * m.1 26) + 1) (m.2.1 65 (b + 2))) ((4 * m.1 26) + 2) z9) (m' := (kA (kA (kA (kA m 66 (up (m.2.1 66) (4 * m.1 26) (m.2.1 65 (b + 1)))) 66 (up (up (m.2.1 66) (4 * m.1 26) (m.2.1 65 (b + 1))) ((4 * m.1 26) + 1) (m.2.1 65 (b + 2)))) 66 (up (up (up (m.2.1 66) (4 * m.1 26) (m.2.1 65 (b + 1))) ((4 * m.1 26) + 1) (m.2.1 65 (b + 2))) ((4 * m.1 26) + 2) z9)) 66 (up (up (up (up (m.2.1 66) (4 * m.1 26) (m.2.1 65 (b + 1))) ((4 * m.1 26) + 1) (m.2.1 65 (b + 2))) ((4 * m.1 26) + 2) z9) ((4 * m.1 26) + 3) (m.2.1 65 (b + 3))))) rfl (kl_66 _) (by decide) (by omega) (by omega) (kA_66 _ _) ?_
  have hm17 : kI (kA (kA (kA (kA m 66 (up (m.2.1 66) (4 * m.1 26) (m.2.1 65 (b + 1)))) 66 (up (up (m.2.1 66) (4 * m.1 26) (m.2.1 65 (b + 1))) ((4 * m.1 26) + 1) (m.2.1 65 (b + 2)))) 66 (up (up (up (m.2.1 66) (4 * m.1 26) (m.2.1 65 (b + 1))) ((4 * m.1 26) + 1) (m.2.1 65 (b + 2))) ((4 * m.1 26) + 2) z9)) 66 (up (up (up (up (m.2.1 66) (4 * m.1 26) (m.2.1 65 (b + 1))) ((4 * m.1 26) + 1) (m.2.1 65 (b + 2))) ((4 * m.1 26) + 2) z9) ((4 * m.1 26) + 3) (m.2.1 65 (b + 3)))) := kI_U hm14 66 rfl (show (0 : Int) ≤ m.2.1 65 (b + 3) by omega) (show m.2.1 65 (b + 3) ≤ (5 : Int) by omega)
  have hf18 : fr [26] [66] m (kA (kA (kA (kA m 66 (up (m.2.1 66) (4 * m.1 26) (m.2.1 65 (b + 1)))) 66 (up (up (m.2.1 66) (4 * m.1 26) (m.2.1 65 (b + 1))) ((4 * m.1 26) + 1) (m.2.1 65 (b + 2)))) 66 (up (up (up (m.2.1 66) (4 * m.1 26) (m.2.1 65 (b + 1))) ((4 * m.1 26) + 1) (m.2.1 65 (b + 2))) ((4 * m.1 26) + 2) z9)) 66 (up (up (up (up (m.2.1 66) (4 * m.1 26) (m.2.1 65 (b + 1))) ((4 * m.1 26) + 1) (m.2.1 65 (b + 2))) ((4 * m.1 26) + 2) z9) ((4 * m.1 26) + 3) (m.2.1 65 (b + 3)))) := fr_A hf15 66 _ rfl
  refine g_aload_n (n := 0) rfl rfl ?_
  refine g_dup rfl rfl ?_
  refine g_getf (v := vI (m.1 26)) rfl (kl_61 _) rfl ?_
  refine g_iconst rfl ?_
  refine g_iadd rfl ?_
  refine g_putF (m' := (kF (kA (kA (kA (kA m 66 (up (m.2.1 66) (4 * m.1 26) (m.2.1 65 (b + 1)))) 66 (up (up (m.2.1 66) (4 * m.1 26) (m.2.1 65 (b + 1))) ((4 * m.1 26) + 1) (m.2.1 65 (b + 2)))) 66 (up (up (up (m.2.1 66) (4 * m.1 26) (m.2.1 65 (b + 1))) ((4 * m.1 26) + 1) (m.2.1 65 (b + 2))) ((4 * m.1 26) + 2) z9)) 66 (up (up (up (up (m.2.1 66) (4 * m.1 26) (m.2.1 65 (b + 1))) ((4 * m.1 26) + 1) (m.2.1 65 (b + 2))) ((4 * m.1 26) + 2) z9) ((4 * m.1 26) + 3) (m.2.1 65 (b + 3)))) 26 (m.1 26 + 1))) rfl (kl_61 _) rfl rfl rfl rfl (kF_26 _ _) ?_
  have hm19 : kI (kF (kA (kA (kA (kA m 66 (up (m.2.1 66) (4 * m.1 26) (m.2.1 65 (b + 1)))) 66 (up (up (m.2.1 66) (4 * m.1 26) (m.2.1 65 (b + 1))) ((4 * m.1 26) + 1) (m.2.1 65 (b + 2)))) 66 (up (up (up (m.2.1 66) (4 * m.1 26) (m.2.1 65 (b + 1))) ((4 * m.1 26) + 1) (m.2.1 65 (b + 2))) ((4 * m.1 26) + 2) z9)) 66 (up (up (up (up (m.2.1 66) (4 * m.1 26) (m.2.1 65 (b + 1))) ((4 * m.1 26) + 1) (m.2.1 65 (b + 2))) ((4 * m.1 26) + 2) z9) ((4 * m.1 26) + 3) (m.2.1 65 (b + 3)))) 26 (m.1 26 + 1)) := kI_F hm17 26 (show (0 : Int) ≤ (m.1 26 + 1) by omega) (show (m.1 26 + 1) ≤ (10 : Int) by omega)
  have hf20 : fr [26] [66] m (kF (kA (kA (kA (kA m 66 (up (m.2.1 66) (4 * m.1 26) (m.2.1 65 (b + 1)))) 66 (up (up (m.2.1 66) (4 * m.1 26) (m.2.1 65 (b + 1))) ((4 * m.1 26) + 1) (m.2.1 65 (b + 2)))) 66 (up (up (up (m.2.1 66) (4 * m.1 26) (m.2.1 65 (b + 1))) ((4 * m.1 26) + 1) (m.2.1 65 (b + 2))) ((4 * m.1 26) + 2) z9)) 66 (up (up (up (up (m.2.1 66) (4 * m.1 26) (m.2.1 65 (b + 1))) ((4 * m.1 26) + 1) (m.2.1 65 (b + 2))) ((4 * m.1 26) + 2) z9) ((4 * m.1 26) + 3) (m.2.1 65 (b + 3)))) 26 (m.1 26 + 1)) := fr_F hf18 26 _ rfl
  refine g_vret rfl rfl ?_
  have hDn : kD (kF (kA (kA (kA (kA m 66 (up (m.2.1 66) (4 * m.1 26) (m.2.1 65 (b + 1)))) 66 (up (up (m.2.1 66) (4 * m.1 26) (m.2.1 65 (b + 1))) ((4 * m.1 26) + 1) (m.2.1 65 (b + 2)))) 66 (up (up (up (m.2.1 66) (4 * m.1 26) (m.2.1 65 (b + 1))) ((4 * m.1 26) + 1) (m.2.1 65 (b + 2))) ((4 * m.1 26) + 2) z9)) 66 (up (up (up (up (m.2.1 66) (4 * m.1 26) (m.2.1 65 (b + 1))) ((4 * m.1 26) + 1) (m.2.1 65 (b + 2))) ((4 * m.1 26) + 2) z9) ((4 * m.1 26) + 3) (m.2.1 65 (b + 3)))) 26 (m.1 26 + 1)) := by
    intro e h0 h1
    have h1 : e < m.1 26 + 1 := h1
    show (up (up (up (up (m.2.1 66) (4 * m.1 26) (m.2.1 65 (b + 1))) ((4 * m.1 26) + 1) (m.2.1 65 (b + 2))) ((4 * m.1 26) + 2) z9) ((4 * m.1 26) + 3) (m.2.1 65 (b + 3))) (4 * e) ≠ (up (up (up (up (m.2.1 66) (4 * m.1 26) (m.2.1 65 (b + 1))) ((4 * m.1 26) + 1) (m.2.1 65 (b + 2))) ((4 * m.1 26) + 2) z9) ((4 * m.1 26) + 3) (m.2.1 65 (b + 3))) (4 * e + 1)
    by_cases q : e = m.1 26
    · subst q; rw [up_ne _ (by omega), up_ne _ (by omega), up_ne _ (by omega), up_same, up_ne _ (by omega), up_ne _ (by omega), up_same]; exact hv.2.2.2.1
    · rw [up_ne _ (by omega), up_ne _ (by omega), up_ne _ (by omega), up_ne _ (by omega), up_ne _ (by omega), up_ne _ (by omega), up_ne _ (by omega), up_ne _ (by omega)]; exact h_kD e h0 (by omega)
  have ez : z9 = m.2.1 65 b - 1 := by omega
  exact ⟨_, rfl, hm19, hf20, rfl, hDn, fun g hg => by rw [← ez]; exact DY_up rfl rfl rfl rfl rfl hg⟩
set_option maxHeartbeats 8000000 in
theorem d_tell {V : cg_V} {d q : Nat} (hd : 1 ≤ d) (hq : 21 ≤ q) {m : kM} (hm : kI m) {b : Int} (h_b : 0 ≤ b ∧ b ≤ 36) (h_k4 : k4 m) (h_kD : kD m) (hv : rv (m.2.1 65 b) (m.2.1 65 (b + 1)) (m.2.1 65 (b + 2)) (m.2.1 65 (b + 3)) (m.1 26) (m.1 28)) : cg_S V d q mX10_tell [vR 61, vI b] (kl m) (R_V (fun m' => (kI m') ∧ (fr [25, 26, 27, 28, 29, 30] [66, 67] m m') ∧ ((m'.1 25, m'.1 26, m'.1 28) = rw1 (m.2.1 65 b) (m.2.1 65 (b + 1)) (m.1 25, m.1 26, m.1 28)) ∧ (k4 m') ∧ (kD m') ∧ (∀ g : kY, DY m g → DY m' (rw2 (m.2.1 65 b) (m.2.1 65 (b + 1)) (m.2.1 65 (b + 2)) (m.2.1 65 (b + 3)) (m.1 26) g)))) := by
  have hf0 : fr [25, 26, 27, 28, 29, 30] [66, 67] m m := fr_rf m
  refine cg_of (List.mem_of_getElem? (show ae_MT[137]? = some mX10_tell from rfl)) (Nat.le_of_ble_eq_true rfl) ?_
  show cg_G V mX10_tell d q _ 0 [(0, vR 61), (1, vI b)] [] (kl m) 0 0
  have h1 : 2 ≤ m.1 25 ∧ m.1 25 ≤ 6 := hm.1 25
  have h2 : 0 ≤ m.1 26 ∧ m.1 26 ≤ 10 := hm.1 26
  have h3 : 0 ≤ m.1 28 ∧ m.1 28 ≤ 63 := hm.1 28
  unfold rv at hv
  refine g_aload_n (n := 0) rfl rfl ?_
  refine g_getf (v := vR 65) rfl (kl_61 _) rfl ?_
  refine g_iload_n (n := 1) rfl rfl ?_
  refine g_iconst rfl ?_
  refine g_iadd rfl ?_
  have h4 : (-2147483648) ≤ m.2.1 65 (b + 1) ∧ m.2.1 65 (b + 1) ≤ 2147483647 := hm.2 65 (b + 1) (by omega) (show (b + 1) < (40 : Int) by omega)
  refine g_iald (f := m.2.1 65) rfl (kl_65 _) (by decide) (by omega) (by omega) ?_
  refine g_istore_n (n := 2) (lo' := [(0, vR 61), (1, vI b)]) rfl rfl ?_
  refine g_aload_n (n := 0) rfl rfl ?_
  refine g_getf (v := vR 65) rfl (kl_61 _) rfl ?_
  refine g_iload_n (n := 1) rfl rfl ?_
  have h5 : (-2147483648) ≤ m.2.1 65 b ∧ m.2.1 65 b ≤ 2147483647 := hm.2 65 b (by omega) (show b < (40 : Int) by omega)
  refine g_iald (f := m.2.1 65) rfl (kl_65 _) (by decide) (by omega) (by omega) ?_
  have kk6 : m.2.1 65 b < 0 ∨ 11 < m.2.1 65 b ∨ m.2.1 65 b = 0 ∨ m.2.1 65 b = 1 ∨ m.2.1 65 b = 2 ∨ m.2.1 65 b = 3 ∨ m.2.1 65 b = 4 ∨ m.2.1 65 b = 5 ∨ m.2.1 65 b = 6 ∨ m.2.1 65 b = 7 ∨ m.2.1 65 b = 8 ∨ m.2.1 65 b = 9 ∨ m.2.1 65 b = 10 ∨ m.2.1 65 b = 11 := by omega
  have J7 : (m.2.1 65 b < 0 ∨ 11 < m.2.1 65 b ∨ m.2.1 65 b = 1 ∨ m.2.1 65 b = 2 ∨ m.2.1 65 b = 3 ∨ m.2.1 65 b = 4 ∨ m.2.1 65 b = 5 ∨ m.2.1 65 b = 6) → cg_G V mX10_tell d q (R_V (fun m' => (kI m') ∧ (fr [25, 26, 27, 28, 29, 30] [66, 67] m m') ∧ ((m'.1 25, m'.1 26, m'.1 28) = rw1 (m.2.1 65 b) (m.2.1 65 (b + 1)) (m.1 25, m.1 26, m.1 28)) ∧ (k4 m') ∧ (kD m') ∧ (∀ g : kY, DY m g → DY m' (rw2 (m.2.1 65 b) (m.2.1 65 (b + 1)) (m.2.1 65 (b + 2)) (m.2.1 65 (b + 3)) (m.1 26) g)))) 128 [(2, vI (m.2.1 65 (b + 1))), (0, vR 61), (1, vI b)] [] (kl m) 0 0 := by
    intro kk8
    refine g_aload_n (n := 0) rfl rfl ?_
    refine g_iload_n (n := 1) rfl rfl ?_
    refine c_vV (i := 61) (ps := [vI b]) (r := []) (as := [vR 61, vI b]) (cs' := 0) (sl' := 0) rfl rfl rfl rfl rfl rfl (kl_61 _) (d_tellDoor (d := d - 1) (q := q - (2 + 19)) (by omega) (by omega) hm (b := b) (show 0 ≤ b ∧ b ≤ 36 by omega) h_kD (by omega)) (by omega) (show 2 + 19 ≤ q by omega) (Nat.le_of_ble_eq_true rfl) (Nat.le_of_ble_eq_true rfl) rfl rfl rfl ?_
    rintro m10 ⟨hm12, hc13, p14, p15, p16⟩
    have hf17 : fr [25, 26, 27, 28, 29, 30] [66, 67] m m10 := fr_tr hf0 (fr_le hc13 rfl rfl)
    have h18 : m10.1 25 = m.1 25 := hc13.1 25 rfl
    have h19 : 2 ≤ m10.1 25 ∧ m10.1 25 ≤ 6 := hm12.1 25
    have h20 : m10.1 28 = m.1 28 := hc13.1 28 rfl
    have h21 : 0 ≤ m10.1 28 ∧ m10.1 28 ≤ 63 := hm12.1 28
    have t22 : k4 m10 := k4_fr hc13 rfl rfl h_k4
    refine g_vret rfl rfl ?_
    have hrw : (m10.1 25, m10.1 26, m10.1 28) = rw1 (m.2.1 65 b) (m.2.1 65 (b + 1)) (m.1 25, m.1 26, m.1 28) := by unfold rw1; rw [if_neg (show ¬ (m.2.1 65 b = 0) by omega), if_pos (show m.2.1 65 b ≤ 6 by omega), hc13.1 25 rfl, p14, hc13.1 28 rfl]
    have hYn : ∀ g : kY, DY m g → DY m10 (rw2 (m.2.1 65 b) (m.2.1 65 (b + 1)) (m.2.1 65 (b + 2)) (m.2.1 65 (b + 3)) (m.1 26) g) := fun g hg => by unfold rw2; rw [if_neg (show ¬ (m.2.1 65 b = 0) by omega), if_pos (show m.2.1 65 b ≤ 6 by omega)]; exact p16 g hg
    exact ⟨_, rfl, hm12, hf17, hrw, t22, p15, hYn⟩
  rcases kk6 with kk6 | kk6 | kk6 | kk6 | kk6 | kk6 | kk6 | kk6 | kk6 | kk6 | kk6 | kk6 | kk6 | kk6
  · refine g_tsw_out (tg := 128) (by omega) (by omega) rfl (by omega) (by decide) ?_
    exact J7 (by omega)
  · refine g_tsw_out (tg := 128) (by omega) (by omega) rfl (by omega) (by decide) ?_
    exact J7 (by omega)
  · refine g_tsw_in (tg := 76) (o9 := 61) (by omega) (by omega) rfl (by omega) (by omega) (by rw [kk6]; rfl) (by decide) ?_
    refine g_aload_n (n := 0) rfl rfl ?_
    refine g_iload_n (n := 2) rfl rfl ?_
    refine c_vV (i := 61) (ps := [vI (m.2.1 65 (b + 1))]) (r := []) (as := [vR 61, vI (m.2.1 65 (b + 1))]) (cs' := 0) (sl' := 0) rfl rfl rfl rfl rfl rfl (kl_61 _) (d_clear (d := d - 1) (q := q - (2 + 19)) (by omega) (by omega) hm (r := m.2.1 65 (b + 1)) (show 2 ≤ m.2.1 65 (b + 1) ∧ m.2.1 65 (b + 1) ≤ 6 by omega)) (by omega) (show 2 + 19 ≤ q by omega) (Nat.le_of_ble_eq_true rfl) (Nat.le_of_ble_eq_true rfl) rfl rfl rfl ?_
    rintro m24 ⟨hm26, hc27, p28, p29, p30, p31⟩
    have hf32 : fr [25, 26, 27, 28, 29, 30] [66, 67] m m24 := fr_tr hf0 (fr_le hc27 rfl rfl)
    refine g_vret rfl rfl ?_
    have hrw : (m24.1 25, m24.1 26, m24.1 28) = rw1 (m.2.1 65 b) (m.2.1 65 (b + 1)) (m.1 25, m.1 26, m.1 28) := by unfold rw1; rw [if_pos (show m.2.1 65 b = 0 by omega), p28, p29, p30]
    have k4n : k4 m24 := by unfold k4; rw [p30]; decide
    have kDn : kD m24 := fun e h0 h1 => by rw [p29] at h1; omega
    have hYn : ∀ g : kY, DY m g → DY m24 (rw2 (m.2.1 65 b) (m.2.1 65 (b + 1)) (m.2.1 65 (b + 2)) (m.2.1 65 (b + 3)) (m.1 26) g) := fun g hg => by unfold rw2; rw [if_pos (show m.2.1 65 b = 0 by omega)]; exact ⟨fun j h0 h1 => by rw [p29] at h1; omega, p31⟩
    exact ⟨_, rfl, hm26, hf32, hrw, k4n, kDn, hYn⟩
  · refine g_tsw_in (tg := 128) (o9 := 113) (by omega) (by omega) rfl (by omega) (by omega) (by rw [kk6]; rfl) (by decide) ?_
    exact J7 (by omega)
  · refine g_tsw_in (tg := 128) (o9 := 113) (by omega) (by omega) rfl (by omega) (by omega) (by rw [kk6]; rfl) (by decide) ?_
    exact J7 (by omega)
  · refine g_tsw_in (tg := 128) (o9 := 113) (by omega) (by omega) rfl (by omega) (by omega) (by rw [kk6]; rfl) (by decide) ?_
    exact J7 (by omega)
  · refine g_tsw_in (tg := 128) (o9 := 113) (by omega) (by omega) rfl (by omega) (by omega) (by rw [kk6]; rfl) (by decide) ?_
    exact J7 (by omega)
  · refine g_tsw_in (tg := 128) (o9 := 113) (by omega) (by omega) rfl (by omega) (by omega) (by rw [kk6]; rfl) (by decide) ?_
    exact J7 (by omega)
  · refine g_tsw_in (tg := 128) (o9 := 113) (by omega) (by omega) rfl (by omega) (by omega) (by rw [kk6]; rfl) (by decide) ?_
    exact J7 (by omega)
  · refine g_tsw_in (tg := 82) (o9 := 67) (by omega) (by omega) rfl (by omega) (by omega) (by rw [kk6]; rfl) (by decide) ?_
    refine g_aload_n (n := 0) rfl rfl ?_
    refine g_iload_n (n := 2) rfl rfl ?_
    refine g_putF (m' := (kF m 27 (m.2.1 65 (b + 1)))) rfl (kl_61 _) rfl rfl rfl rfl (kF_27 _ _) ?_
    have hm33 : kI (kF m 27 (m.2.1 65 (b + 1))) := kI_F hm 27 (show (0 : Int) ≤ m.2.1 65 (b + 1) by omega) (show m.2.1 65 (b + 1) ≤ (5 : Int) by omega)
    have hf34 : fr [25, 26, 27, 28, 29, 30] [66, 67] m (kF m 27 (m.2.1 65 (b + 1))) := fr_F hf0 27 _ rfl
    refine g_vret rfl rfl ?_
    have hrw : (m.1 25, m.1 26, m.1 28) = rw1 (m.2.1 65 b) (m.2.1 65 (b + 1)) (m.1 25, m.1 26, m.1 28) := by unfold rw1; rw [if_neg (show ¬ (m.2.1 65 b = 0) by omega), if_neg (show ¬ (m.2.1 65 b ≤ 6) by omega), if_neg (show ¬ (m.2.1 65 b = 8) by omega)]
    have hYn : ∀ g : kY, DY m g → DY (kF m 27 (m.2.1 65 (b + 1))) (rw2 (m.2.1 65 b) (m.2.1 65 (b + 1)) (m.2.1 65 (b + 2)) (m.2.1 65 (b + 3)) (m.1 26) g) := fun g hg => by unfold rw2; rw [if_neg (show ¬ (m.2.1 65 b = 0) by omega), if_neg (show ¬ (m.2.1 65 b ≤ 6) by omega), if_neg (show ¬ (m.2.1 65 b = 10) by omega)]; exact hg
    exact ⟨_, rfl, hm33, hf34, hrw, h_k4, h_kD, hYn⟩
  · refine g_tsw_in (tg := 88) (o9 := 73) (by omega) (by omega) rfl (by omega) (by omega) (by rw [kk6]; rfl) (by decide) ?_
    refine g_aload_n (n := 0) rfl rfl ?_
    refine g_dup rfl rfl ?_
    refine g_getf (v := vI (m.1 28)) rfl (kl_61 _) rfl ?_
    refine g_iconst rfl ?_
    refine g_iload_n (n := 2) rfl rfl ?_
    refine g_ishl rfl ?_
    intro z35 h36 h37 h38
    refine g_ior rfl ?_
    intro z40 h41 h42 h43
    have h44 : z40 = stb (m.1 28) (m.2.1 65 (b + 1)) := b_stb h36 h41 (by omega) (by omega) (by omega) (by omega)
    have h45 := b_stb_rng (u := m.1 28) (r := m.2.1 65 (b + 1)) (by omega) (by omega) (by omega) (by omega)
    refine g_putF (m' := (kF m 28 z40)) rfl (kl_61 _) rfl rfl rfl rfl (kF_28 _ _) ?_
    have hm46 : kI (kF m 28 z40) := kI_F hm 28 (show (0 : Int) ≤ z40 by omega) (show z40 ≤ (63 : Int) by omega)
    have hf47 : fr [25, 26, 27, 28, 29, 30] [66, 67] m (kF m 28 z40) := fr_F hf0 28 _ rfl
    refine g_vret rfl rfl ?_
    have hq : z40 = stb (m.1 28) (m.2.1 65 (b + 1)) := by omega
    have h8 : 0 ≤ m.2.1 65 (b + 1) ∧ m.2.1 65 (b + 1) ≤ 5 ∧ hb (m.1 28) (m.2.1 65 (b + 1)) ≠ 1 ∧ pcn (m.1 28) < 4 := by omega
    have w28 : 0 ≤ m.1 28 ∧ m.1 28 ≤ 63 := hm.1 28
    have k4n : k4 (kF m 28 z40) := by show pcn z40 ≤ 4; rw [hq, stb_pcn w28.1 w28.2 h8.1 h8.2.1 h8.2.2.1]; omega
    have hrw : (m.1 25, m.1 26, z40) = rw1 (m.2.1 65 b) (m.2.1 65 (b + 1)) (m.1 25, m.1 26, m.1 28) := by unfold rw1; rw [if_neg (show ¬ (m.2.1 65 b = 0) by omega), if_neg (show ¬ (m.2.1 65 b ≤ 6) by omega), if_pos (show m.2.1 65 b = 8 by omega), hq]
    have hYn : ∀ g : kY, DY m g → DY (kF m 28 z40) (rw2 (m.2.1 65 b) (m.2.1 65 (b + 1)) (m.2.1 65 (b + 2)) (m.2.1 65 (b + 3)) (m.1 26) g) := fun g hg => by unfold rw2; rw [if_neg (show ¬ (m.2.1 65 b = 0) by omega), if_neg (show ¬ (m.2.1 65 b ≤ 6) by omega), if_neg (show ¬ (m.2.1 65 b = 10) by omega)]; exact hg
    exact ⟨_, rfl, hm46, hf47, hrw, k4n, h_kD, hYn⟩
  · refine g_tsw_in (tg := 101) (o9 := 86) (by omega) (by omega) rfl (by omega) (by omega) (by rw [kk6]; rfl) (by decide) ?_
    refine g_aload_n (n := 0) rfl rfl ?_
    refine g_iload_n (n := 2) rfl rfl ?_
    refine g_putF (m' := (kF m 29 (m.2.1 65 (b + 1)))) rfl (kl_61 _) rfl rfl rfl rfl (kF_29 _ _) ?_
    have hm48 : kI (kF m 29 (m.2.1 65 (b + 1))) := kI_F hm 29 (show (0 : Int) ≤ m.2.1 65 (b + 1) by omega) (show m.2.1 65 (b + 1) ≤ (3 : Int) by omega)
    have hf49 : fr [25, 26, 27, 28, 29, 30] [66, 67] m (kF m 29 (m.2.1 65 (b + 1))) := fr_F hf0 29 _ rfl
    refine g_vret rfl rfl ?_
    have hrw : (m.1 25, m.1 26, m.1 28) = rw1 (m.2.1 65 b) (m.2.1 65 (b + 1)) (m.1 25, m.1 26, m.1 28) := by unfold rw1; rw [if_neg (show ¬ (m.2.1 65 b = 0) by omega), if_neg (show ¬ (m.2.1 65 b ≤ 6) by omega), if_neg (show ¬ (m.2.1 65 b = 8) by omega)]
    have hYn : ∀ g : kY, DY m g → DY (kF m 29 (m.2.1 65 (b + 1))) (rw2 (m.2.1 65 b) (m.2.1 65 (b + 1)) (m.2.1 65 (b + 2)) (m.2.1 65 (b + 3)) (m.1 26) g) := fun g hg => by unfold rw2; rw [if_neg (show ¬ (m.2.1 65 b = 0) by omega), if_neg (show ¬ (m.2.1 65 b ≤ 6) by omega), if_neg (show ¬ (m.2.1 65 b = 10) by omega)]; exact hg
    exact ⟨_, rfl, hm48, hf49, hrw, h_k4, h_kD, hYn⟩
  · refine g_tsw_in (tg := 107) (o9 := 92) (by omega) (by omega) rfl (by omega) (by omega) (by rw [kk6]; rfl) (by decide) ?_
    refine g_aload_n (n := 0) rfl rfl ?_
    refine g_iload_n (n := 2) rfl rfl ?_
    refine g_putF (m' := (kF m 30 (m.2.1 65 (b + 1)))) rfl (kl_61 _) rfl rfl rfl rfl (kF_30 _ _) ?_
    have hm50 : kI (kF m 30 (m.2.1 65 (b + 1))) := kI_F hm 30 (show (0 : Int) ≤ m.2.1 65 (b + 1) by omega) (show m.2.1 65 (b + 1) ≤ (5 : Int) by omega)
    have hf51 : fr [25, 26, 27, 28, 29, 30] [66, 67] m (kF m 30 (m.2.1 65 (b + 1))) := fr_F hf0 30 _ rfl
    refine g_vret rfl rfl ?_
    have hrw : (m.1 25, m.1 26, m.1 28) = rw1 (m.2.1 65 b) (m.2.1 65 (b + 1)) (m.1 25, m.1 26, m.1 28) := by unfold rw1; rw [if_neg (show ¬ (m.2.1 65 b = 0) by omega), if_neg (show ¬ (m.2.1 65 b ≤ 6) by omega), if_neg (show ¬ (m.2.1 65 b = 8) by omega)]
    have hYn : ∀ g : kY, DY m g → DY (kF m 30 (m.2.1 65 (b + 1))) (rw2 (m.2.1 65 b) (m.2.1 65 (b + 1)) (m.2.1 65 (b + 2)) (m.2.1 65 (b + 3)) (m.1 26) g) := fun g hg => by unfold rw2; rw [if_neg (show ¬ (m.2.1 65 b = 0) by omega), if_neg (show ¬ (m.2.1 65 b ≤ 6) by omega), if_pos (show (m.2.1 65 b = 10) by omega)]; exact ⟨hg.1, rfl⟩
    exact ⟨_, rfl, hm50, hf51, hrw, h_k4, h_kD, hYn⟩
  · refine g_tsw_in (tg := 113) (o9 := 98) (by omega) (by omega) rfl (by omega) (by omega) (by rw [kk6]; rfl) (by decide) ?_
    refine g_aload_n (n := 0) rfl rfl ?_
    refine g_getf (v := vR 67) rfl (kl_61 _) rfl ?_
    refine g_iload_n (n := 2) rfl rfl ?_
    refine g_aload_n (n := 0) rfl rfl ?_
    refine g_getf (v := vR 65) rfl (kl_61 _) rfl ?_
    refine g_iload_n (n := 1) rfl rfl ?_
    refine g_iconst rfl ?_
    refine g_iadd rfl ?_
    have h52 : (-2147483648) ≤ m.2.1 65 (b + 2) ∧ m.2.1 65 (b + 2) ≤ 2147483647 := hm.2 65 (b + 2) (by omega) (show (b + 2) < (40 : Int) by omega)
    refine g_iald (f := m.2.1 65) rfl (kl_65 _) (by decide) (by omega) (by omega) ?_
    refine g_iAst (f := m.2.1 67) (m' := (kA m 67 (up (m.2.1 67) (m.2.1 65 (b + 1)) (m.2.1 65 (b + 2))))) rfl (kl_67 _) (by decide) (by omega) (by omega) (kA_67 _ _) ?_
    have hm53 : kI (kA m 67 (up (m.2.1 67) (m.2.1 65 (b + 1)) (m.2.1 65 (b + 2)))) := kI_U hm 67 rfl (show (0 : Int) ≤ m.2.1 65 (b + 2) by omega) (show m.2.1 65 (b + 2) ≤ (5 : Int) by omega)
    have hf54 : fr [25, 26, 27, 28, 29, 30] [66, 67] m (kA m 67 (up (m.2.1 67) (m.2.1 65 (b + 1)) (m.2.1 65 (b + 2)))) := fr_A hf0 67 _ rfl
    refine g_vret rfl rfl ?_
    have hrw : (m.1 25, m.1 26, m.1 28) = rw1 (m.2.1 65 b) (m.2.1 65 (b + 1)) (m.1 25, m.1 26, m.1 28) := by unfold rw1; rw [if_neg (show ¬ (m.2.1 65 b = 0) by omega), if_neg (show ¬ (m.2.1 65 b ≤ 6) by omega), if_neg (show ¬ (m.2.1 65 b = 8) by omega)]
    have hYn : ∀ g : kY, DY m g → DY (kA m 67 (up (m.2.1 67) (m.2.1 65 (b + 1)) (m.2.1 65 (b + 2)))) (rw2 (m.2.1 65 b) (m.2.1 65 (b + 1)) (m.2.1 65 (b + 2)) (m.2.1 65 (b + 3)) (m.1 26) g) := fun g hg => by unfold rw2; rw [if_neg (show ¬ (m.2.1 65 b = 0) by omega), if_neg (show ¬ (m.2.1 65 b ≤ 6) by omega), if_neg (show ¬ (m.2.1 65 b = 10) by omega)]; exact hg
    exact ⟨_, rfl, hm53, hf54, hrw, h_k4, h_kD, hYn⟩
theorem d_gaol {V : cg_V} {d q : Nat} (hd : 7 ≤ d) (hq : 154 ≤ q) {m : kM} (hm : kI m) (h_k4 : k4 m) (h_kD : kD m) (h_kK : kK m) : cg_S V d q mX10_gaol [vR 61] (kl m) (R_I (fun z m' => (kI m') ∧ (fr [23, 24, 25, 26, 27, 28, 29, 30, 31, 32, 33, 34, 35, 36, 38, 39] [62, 63, 65, 66, 67] m m') ∧ (((RD (m.2.1 64) (m.1 23) 10 0 (m.1 25) (m.1 26) (m.1 28)).1 = -1 ∧ z = (RD (m.2.1 64) (m.1 23) 10 0 (m.1 25) (m.1 26) (m.1 28)).2.2.2.2 ∧ m'.1 25 = (RD (m.2.1 64) (m.1 23) 10 0 (m.1 25) (m.1 26) (m.1 28)).2.1 ∧ m'.1 26 = (RD (m.2.1 64) (m.1 23) 10 0 (m.1 25) (m.1 26) (m.1 28)).2.2.1 ∧ m'.1 28 = (RD (m.2.1 64) (m.1 23) 10 0 (m.1 25) (m.1 26) (m.1 28)).2.2.2.1 ∧ m'.1 23 = 0 ∧ m'.1 39 = 0 ∧ m'.1 38 = 0 ∧ ∀ g : kY, DY m g → DY m' (RG (m.2.1 64) (m.1 23) 10 0 (m.1 25) (m.1 26) (m.1 28) g)) ∨ ((RD (m.2.1 64) (m.1 23) 10 0 (m.1 25) (m.1 26) (m.1 28)).1 ≠ -1 ∧ z = -4 ∧ m'.1 25 = m.1 25 ∧ m'.1 26 = m.1 26 ∧ m'.1 28 = m.1 28 ∧ m'.1 23 = m.1 23 ∧ m'.1 39 = m.1 39 ∧ m'.1 38 = m.1 38 ∧ ∀ g : kY, DY m g → DY m' g)) ∧ (k4 m') ∧ (kD m') ∧ (kK m'))) := by
  have hf0 : fr [23, 24, 25, 26, 27, 28, 29, 30, 31, 32, 33, 34, 35, 36, 38, 39] [62, 63, 65, 66, 67] m m := fr_rf m
  refine cg_of (List.mem_of_getElem? (show ae_MT[138]? = some mX10_gaol from rfl)) (Nat.le_of_ble_eq_true rfl) ?_
  show cg_G V mX10_gaol d q _ 0 [(0, vR 61)] [] (kl m) 0 0
  have h1 : 0 ≤ m.1 23 ∧ m.1 23 ≤ 200 := hm.1 23
  have h2 : 2 ≤ m.1 25 ∧ m.1 25 ≤ 6 := hm.1 25
  have h3 : 0 ≤ m.1 26 ∧ m.1 26 ≤ 10 := hm.1 26
  have h4 : 0 ≤ m.1 28 ∧ m.1 28 ≤ 63 := hm.1 28
  have h5 : 0 ≤ m.1 38 ∧ m.1 38 ≤ 20 := hm.1 38
  have h6 : 0 ≤ m.1 39 ∧ m.1 39 ≤ 8 := hm.1 39
  refine g_aload_n (n := 0) rfl rfl ?_
  refine c_vI (i := 61) (ps := []) (r := []) (as := [vR 61]) (cs' := 0) (sl' := 0) rfl rfl rfl rfl rfl rfl (kl_61 _) (d_fault (d := d - 1) (q := q - (2 + 19)) (by omega) (by omega) hm  h_k4) (by omega) (show 2 + 19 ≤ q by omega) (Nat.le_of_ble_eq_true rfl) (Nat.le_of_ble_eq_true rfl) rfl rfl rfl ?_
  rintro z7 m8 ⟨hm10, hc11, p12, p13, p14, p15⟩
  have hf16 : fr [23, 24, 25, 26, 27, 28, 29, 30, 31, 32, 33, 34, 35, 36, 38, 39] [62, 63, 65, 66, 67] m m8 := fr_tr hf0 (fr_le hc11 rfl rfl)
  have h17 : m8.1 23 = m.1 23 := hc11.1 23 rfl
  have h18 : 0 ≤ m8.1 23 ∧ m8.1 23 ≤ 200 := hm10.1 23
  have h19 : m8.1 25 = m.1 25 := hc11.1 25 rfl
  have h20 : 2 ≤ m8.1 25 ∧ m8.1 25 ≤ 6 := hm10.1 25
  have h21 : m8.1 26 = m.1 26 := hc11.1 26 rfl
  have h22 : 0 ≤ m8.1 26 ∧ m8.1 26 ≤ 10 := hm10.1 26
  have h23 : m8.1 28 = m.1 28 := hc11.1 28 rfl
  have h24 : 0 ≤ m8.1 28 ∧ m8.1 28 ≤ 63 := hm10.1 28
  have h25 : m8.1 38 = m.1 38 := hc11.1 38 rfl
  have h26 : 0 ≤ m8.1 38 ∧ m8.1 38 ≤ 20 := hm10.1 38
  have h27 : m8.1 39 = m.1 39 := hc11.1 39 rfl
  have h28 : 0 ≤ m8.1 39 ∧ m8.1 39 ≤ 8 := hm10.1 39
  have t29 : k4 m8 := k4_fr hc11 rfl rfl h_k4
  have t30 : kD m8 := kD_fr hc11 rfl rfl h_kD
  have t31 : kK m8 := kK_fr hc11 rfl rfl rfl h_kK
  refine g_iconst rfl ?_
  refine g_icmp_eq (by omega) (by omega) (by decide) (by decide) rfl ?_ ?_
  · intro kk32
    have hz := p12
    obtain ⟨o1, oV, oF, oY⟩ := p13 (by omega)
    have gY : ∀ g : kY, DY m g → DY m8 (FY (m8.2.1 65) (Int.toNat 0) (m.1 25, m.1 26, m.1 28) g) := fun g hg => DY_of (hc11.1 26 rfl) (hc11.2.1 66 rfl) (hc11.1 30 rfl) hg
    have g0 : (m8.1 25, m8.1 26, m8.1 28) = FD (m8.2.1 65) (Int.toNat 0) (m.1 25, m.1 26, m.1 28) := by rw [hc11.1 25 rfl, hc11.1 26 rfl, hc11.1 28 rfl]; rfl
    have w24 : 0 ≤ m8.1 24 ∧ m8.1 24 ≤ 10 := hm10.1 24
    refine g_iconst rfl ?_
    refine g_istore_n (n := 1) (lo' := [(0, vR 61)]) rfl rfl ?_
    have L13_1 : ∀ (n13_1 : Nat) (k_1 : Int) (mL1 : kM), (kI mL1) → (fr [23, 24, 25, 26, 27, 28, 29, 30, 31, 32, 33, 34, 35, 36, 38, 39] [62, 63, 65, 66, 67] m mL1) → (0 ≤ k_1 ∧ k_1 ≤ 10) → (mL1.1 24 = m8.1 24) → (mL1.2.1 65 = m8.2.1 65) → ((mL1.1 25, mL1.1 26, mL1.1 28) = FD (m8.2.1 65) (Int.toNat k_1) (m.1 25, m.1 26, m.1 28)) → (k_1 ≤ m8.1 24) → (k4 mL1) → (kD mL1) → (∀ g : kY, DY m g → DY mL1 (FY (m8.2.1 65) (Int.toNat k_1) (m.1 25, m.1 26, m.1 28) g)) → ((10 - k_1).toNat) = n13_1 → cg_G V mX10_gaol d q (R_I (fun z m' => (kI m') ∧ (fr [23, 24, 25, 26, 27, 28, 29, 30, 31, 32, 33, 34, 35, 36, 38, 39] [62, 63, 65, 66, 67] m m') ∧ (((RD (m.2.1 64) (m.1 23) 10 0 (m.1 25) (m.1 26) (m.1 28)).1 = -1 ∧ z = (RD (m.2.1 64) (m.1 23) 10 0 (m.1 25) (m.1 26) (m.1 28)).2.2.2.2 ∧ m'.1 25 = (RD (m.2.1 64) (m.1 23) 10 0 (m.1 25) (m.1 26) (m.1 28)).2.1 ∧ m'.1 26 = (RD (m.2.1 64) (m.1 23) 10 0 (m.1 25) (m.1 26) (m.1 28)).2.2.1 ∧ m'.1 28 = (RD (m.2.1 64) (m.1 23) 10 0 (m.1 25) (m.1 26) (m.1 28)).2.2.2.1 ∧ m'.1 23 = 0 ∧ m'.1 39 = 0 ∧ m'.1 38 = 0 ∧ ∀ g : kY, DY m g → DY m' (RG (m.2.1 64) (m.1 23) 10 0 (m.1 25) (m.1 26) (m.1 28) g)) ∨ ((RD (m.2.1 64) (m.1 23) 10 0 (m.1 25) (m.1 26) (m.1 28)).1 ≠ -1 ∧ z = -4 ∧ m'.1 25 = m.1 25 ∧ m'.1 26 = m.1 26 ∧ m'.1 28 = m.1 28 ∧ m'.1 23 = m.1 23 ∧ m'.1 39 = m.1 39 ∧ m'.1 38 = m.1 38 ∧ ∀ g : kY, DY m g → DY m' g)) ∧ (k4 m') ∧ (kD m') ∧ (kK m'))) 13 [(1, vI k_1), (0, vR 61)] [] (kl mL1) 0 0 := by
      intro n13_1
      induction n13_1 using Nat.strongRecOn with
      | _ n13_1 ih13_1 =>
        intro k_1 mL1 hmL1 hfL1 i33 j24 j65 jF jk j4 jD jY q34
        refine g_iload_n (n := 1) rfl rfl ?_
        refine g_aload_n (n := 0) rfl rfl ?_
        have h35 : 0 ≤ mL1.1 24 ∧ mL1.1 24 ≤ 10 := hmL1.1 24
        refine g_getf (v := vI (mL1.1 24)) rfl (kl_61 _) rfl ?_
        refine g_icmp_ge (by omega) (by omega) (by omega) (by omega) rfl ?_ ?_
        · intro kk36
          refine g_aload_n (n := 0) rfl rfl ?_
          have h37 : 0 ≤ mL1.1 28 ∧ mL1.1 28 ≤ 63 := hmL1.1 28
          have h38 : 0 ≤ mL1.1 29 ∧ mL1.1 29 ≤ 3 := hmL1.1 29
          have h39 : 0 ≤ mL1.1 30 ∧ mL1.1 30 ≤ 5 := hmL1.1 30
          refine c_vV (i := 61) (ps := []) (r := []) (as := [vR 61]) (cs' := 0) (sl' := 0) rfl rfl rfl rfl rfl rfl (kl_61 _) (d_begin (d := d - 1) (q := q - (2 + 19)) (by omega) (by omega) hmL1  ) (by omega) (show 2 + 19 ≤ q by omega) (Nat.le_of_ble_eq_true rfl) (Nat.le_of_ble_eq_true rfl) rfl rfl rfl ?_
          rintro m41 ⟨hm43, hc44, p45, p46⟩
          have hf47 : fr [23, 24, 25, 26, 27, 28, 29, 30, 31, 32, 33, 34, 35, 36, 38, 39] [62, 63, 65, 66, 67] m m41 := fr_tr hfL1 (fr_le hc44 rfl rfl)
          have h48 : m41.1 24 = mL1.1 24 := hc44.1 24 rfl
          have h49 : 0 ≤ m41.1 24 ∧ m41.1 24 ≤ 10 := hm43.1 24
          have h50 : m41.1 28 = mL1.1 28 := hc44.1 28 rfl
          have h51 : 0 ≤ m41.1 28 ∧ m41.1 28 ≤ 63 := hm43.1 28
          have h52 : m41.1 29 = mL1.1 29 := hc44.1 29 rfl
          have h53 : 0 ≤ m41.1 29 ∧ m41.1 29 ≤ 3 := hm43.1 29
          have h54 : m41.1 30 = mL1.1 30 := hc44.1 30 rfl
          have h55 : 0 ≤ m41.1 30 ∧ m41.1 30 ≤ 5 := hm43.1 30
          have t56 : k4 m41 := k4_fr hc44 rfl rfl j4
          have t57 : kD m41 := kD_fr hc44 rfl rfl jD
          refine g_aload_n (n := 0) rfl rfl ?_
          refine g_iconst rfl ?_
          refine g_putF (m' := (kF m41 38 0)) rfl (kl_61 _) rfl rfl rfl rfl (kF_38 _ _) ?_
          have hm58 : kI (kF m41 38 0) := kI_F hm43 38 (show (0 : Int) ≤ 0 by omega) (show 0 ≤ (20 : Int) by omega)
          have hf59 : fr [23, 24, 25, 26, 27, 28, 29, 30, 31, 32, 33, 34, 35, 36, 38, 39] [62, 63, 65, 66, 67] m (kF m41 38 0) := fr_F hf47 38 _ rfl
          refine g_aload_n (n := 0) rfl rfl ?_
          refine g_iconst rfl ?_
          refine g_putF (m' := (kF (kF m41 38 0) 39 0)) rfl (kl_61 _) rfl rfl rfl rfl (kF_39 _ _) ?_
          have hm60 : kI (kF (kF m41 38 0) 39 0) := kI_F hm58 39 (show (0 : Int) ≤ 0 by omega) (show 0 ≤ (8 : Int) by omega)
          have hf61 : fr [23, 24, 25, 26, 27, 28, 29, 30, 31, 32, 33, 34, 35, 36, 38, 39] [62, 63, 65, 66, 67] m (kF (kF m41 38 0) 39 0) := fr_F hf59 39 _ rfl
          refine g_aload_n (n := 0) rfl rfl ?_
          refine g_getf (v := vR 63) rfl (kl_61 _) rfl ?_
          refine g_iconst rfl ?_
          refine g_iconst rfl ?_
          refine g_zAst (f := m41.2.1 63) (m' := (kA (kF (kF m41 38 0) 39 0) 63 (up (m41.2.1 63) 0 0))) rfl (kl_63 _) (by decide) (by omega) (by omega) (by omega) (kA_63 _ _) ?_
          have hm62 : kI (kA (kF (kF m41 38 0) 39 0) 63 (up (m41.2.1 63) 0 0)) := kI_U hm60 63 rfl (show (0 : Int) ≤ 0 by omega) (show 0 ≤ (1 : Int) by omega)
          have hf63 : fr [23, 24, 25, 26, 27, 28, 29, 30, 31, 32, 33, 34, 35, 36, 38, 39] [62, 63, 65, 66, 67] m (kA (kF (kF m41 38 0) 39 0) 63 (up (m41.2.1 63) 0 0)) := fr_A hf61 63 _ rfl
          refine g_aload_n (n := 0) rfl rfl ?_
          refine g_getf (v := vR 63) rfl (kl_61 _) rfl ?_
          refine g_iconst rfl ?_
          refine g_iconst rfl ?_
          refine g_zAst (f := up (m41.2.1 63) 0 0) (m' := (kA (kA (kF (kF m41 38 0) 39 0) 63 (up (m41.2.1 63) 0 0)) 63 (up (up (m41.2.1 63) 0 0) 1 0))) rfl (kl_63 _) (by decide) (by omega) (by omega) (by omega) (kA_63 _ _) ?_
          have hm64 : kI (kA (kA (kF (kF m41 38 0) 39 0) 63 (up (m41.2.1 63) 0 0)) 63 (up (up (m41.2.1 63) 0 0) 1 0)) := kI_U hm62 63 rfl (show (0 : Int) ≤ 0 by omega) (show 0 ≤ (1 : Int) by omega)
          have hf65 : fr [23, 24, 25, 26, 27, 28, 29, 30, 31, 32, 33, 34, 35, 36, 38, 39] [62, 63, 65, 66, 67] m (kA (kA (kF (kF m41 38 0) 39 0) 63 (up (m41.2.1 63) 0 0)) 63 (up (up (m41.2.1 63) 0 0) 1 0)) := fr_A hf63 63 _ rfl
          refine g_aload_n (n := 0) rfl rfl ?_
          refine g_iconst rfl ?_
          refine g_putF (m' := (kF (kA (kA (kF (kF m41 38 0) 39 0) 63 (up (m41.2.1 63) 0 0)) 63 (up (up (m41.2.1 63) 0 0) 1 0)) 23 0)) rfl (kl_61 _) rfl rfl rfl rfl (kF_23 _ _) ?_
          have hm66 : kI (kF (kA (kA (kF (kF m41 38 0) 39 0) 63 (up (m41.2.1 63) 0 0)) 63 (up (up (m41.2.1 63) 0 0) 1 0)) 23 0) := kI_F hm64 23 (show (0 : Int) ≤ 0 by omega) (show 0 ≤ (200 : Int) by omega)
          have hf67 : fr [23, 24, 25, 26, 27, 28, 29, 30, 31, 32, 33, 34, 35, 36, 38, 39] [62, 63, 65, 66, 67] m (kF (kA (kA (kF (kF m41 38 0) 39 0) 63 (up (m41.2.1 63) 0 0)) 63 (up (up (m41.2.1 63) 0 0) 1 0)) 23 0) := fr_F hf65 23 _ rfl
          refine g_aload_n (n := 0) rfl rfl ?_
          refine g_getf (v := vI (m41.1 24)) rfl (kl_61 _) rfl ?_
          refine g_iret rfl rfl ?_
          have hF9 : (mL1.1 25, mL1.1 26, mL1.1 28) = ((RD (m.2.1 64) (m.1 23) 10 0 (m.1 25) (m.1 26) (m.1 28)).2.1, (RD (m.2.1 64) (m.1 23) 10 0 (m.1 25) (m.1 26) (m.1 28)).2.2.1, (RD (m.2.1 64) (m.1 23) 10 0 (m.1 25) (m.1 26) (m.1 28)).2.2.2.1) := by rw [jF, show Int.toNat k_1 = Int.toNat (m8.1 24) by omega]; exact oF
          injection hF9 with f1 hF9
          injection hF9 with f2 f3
          have e25 : m41.1 25 = mL1.1 25 := hc44.1 25 rfl
          have e26 : m41.1 26 = mL1.1 26 := hc44.1 26 rfl
          have e28 : m41.1 28 = mL1.1 28 := hc44.1 28 rfl
          have e29 : m41.1 29 = mL1.1 29 := hc44.1 29 rfl
          have e30 : m41.1 30 = mL1.1 30 := hc44.1 30 rfl
          have hK9 : kK (kF (kA (kA (kF (kF m41 38 0) 39 0) 63 (up (m41.2.1 63) 0 0)) 63 (up (up (m41.2.1 63) 0 0) 1 0)) 23 0) := by
            refine ⟨?_, fun h => ?_, fun h => ?_⟩
            · show kv (m41.1 28) (kr0 (m41.2.1 62)); rw [p45, e28]; exact kv_begin (hmL1.1 28) (hmL1.2 67 0 (by decide) (by decide)) (hmL1.2 67 1 (by decide) (by decide)) (hmL1.1 30) (hmL1.1 29)
            · have h : up (up (m41.2.1 63) 0 0) 1 0 0 = 1 := h; rw [up_ne _ (by decide), up_same] at h; omega
            · have h : up (up (m41.2.1 63) 0 0) 1 0 1 = 1 := h; rw [up_same] at h; omega
          have hYz : ∀ g : kY, DY m g → DY (kF (kA (kA (kF (kF m41 38 0) 39 0) 63 (up (m41.2.1 63) 0 0)) 63 (up (up (m41.2.1 63) 0 0) 1 0)) 23 0) (RG (m.2.1 64) (m.1 23) 10 0 (m.1 25) (m.1 26) (m.1 28) g) := fun g hg => by have h9 := jY g hg; rw [show Int.toNat k_1 = Int.toNat (m8.1 24) by omega, oY] at h9; have h8 : DY m41 _ := DY_of (hc44.1 26 rfl) (hc44.2.1 66 rfl) (hc44.1 30 rfl) h9; exact h8
          have k4z : k4 (kF (kA (kA (kF (kF m41 38 0) 39 0) 63 (up (m41.2.1 63) 0 0)) 63 (up (up (m41.2.1 63) 0 0) 1 0)) 23 0) := by show pcn (m41.1 28) ≤ 4; rw [e28]; exact j4
          have kDz : kD (kF (kA (kA (kF (kF m41 38 0) 39 0) 63 (up (m41.2.1 63) 0 0)) 63 (up (up (m41.2.1 63) 0 0) 1 0)) 23 0) := by have h9 := kD_fr hc44 rfl rfl jD; exact h9
          exact ⟨_, _, rfl, hm66, hf67, Or.inl ⟨by rw [← hz]; omega, (show m41.1 24 = _ by omega), e25.trans f1, e26.trans f2, e28.trans f3, rfl, rfl, rfl, hYz⟩, k4z, kDz, hK9⟩
        · intro kk68
          have hvr := oV (Int.toNat k_1) (by omega)
          rw [← jF, show ((Int.toNat k_1 : Nat) : Int) = k_1 by omega, ← j65] at hvr
          have hvr : rv (mL1.2.1 65 (4 * k_1)) (mL1.2.1 65 (4 * k_1 + 1)) (mL1.2.1 65 (4 * k_1 + 2)) (mL1.2.1 65 (4 * k_1 + 3)) (mL1.1 26) (mL1.1 28) := hvr
          refine g_aload_n (n := 0) rfl rfl ?_
          refine g_iconst rfl ?_
          refine g_iload_n (n := 1) rfl rfl ?_
          refine g_imul rfl ?_
          have h69 : 2 ≤ mL1.1 25 ∧ mL1.1 25 ≤ 6 := hmL1.1 25
          have h70 : 0 ≤ mL1.1 26 ∧ mL1.1 26 ≤ 10 := hmL1.1 26
          have h71 : 0 ≤ mL1.1 28 ∧ mL1.1 28 ≤ 63 := hmL1.1 28
          refine c_vV (i := 61) (ps := [vI (4 * k_1)]) (r := []) (as := [vR 61, vI (4 * k_1)]) (cs' := 0) (sl' := 0) rfl rfl rfl rfl rfl rfl (kl_61 _) (d_tell (d := d - 1) (q := q - (3 + 19)) (by omega) (by omega) hmL1 (b := (4 * k_1)) (show 0 ≤ (4 * k_1) ∧ (4 * k_1) ≤ 36 by omega) j4 jD hvr) (by omega) (show 3 + 19 ≤ q by omega) (Nat.le_of_ble_eq_true rfl) (Nat.le_of_ble_eq_true rfl) rfl rfl rfl ?_
          rintro m73 ⟨hm75, hc76, p77, p78, p79, p80⟩
          have hf81 : fr [23, 24, 25, 26, 27, 28, 29, 30, 31, 32, 33, 34, 35, 36, 38, 39] [62, 63, 65, 66, 67] m m73 := fr_tr hfL1 (fr_le hc76 rfl rfl)
          have h82 : m73.1 24 = mL1.1 24 := hc76.1 24 rfl
          have h83 : 0 ≤ m73.1 24 ∧ m73.1 24 ≤ 10 := hm75.1 24
          have jFn : (m73.1 25, m73.1 26, m73.1 28) = FD (m8.2.1 65) (Int.toNat (k_1 + 1)) (m.1 25, m.1 26, m.1 28) := by
            rw [show Int.toNat (k_1 + 1) = Int.toNat k_1 + 1 by omega, p77, jF, j65]
            show _ = rw1 (m8.2.1 65 (4 * ((Int.toNat k_1 : Nat) : Int))) (m8.2.1 65 (4 * ((Int.toNat k_1 : Nat) : Int) + 1)) _
            rw [show ((Int.toNat k_1 : Nat) : Int) = k_1 by omega]
          have jYn : ∀ g : kY, DY m g → DY m73 (FY (m8.2.1 65) (Int.toNat (k_1 + 1)) (m.1 25, m.1 26, m.1 28) g) := by
            intro g hg
            have h9 := p80 _ (jY g hg)
            rw [j65, show mL1.1 26 = (FD (m8.2.1 65) (Int.toNat k_1) (m.1 25, m.1 26, m.1 28)).2.1 from congrArg (fun x : kU => x.2.1) jF] at h9
            rw [show Int.toNat (k_1 + 1) = Int.toNat k_1 + 1 by omega]
            show DY m73 (rw2 (m8.2.1 65 (4 * ((Int.toNat k_1 : Nat) : Int))) (m8.2.1 65 (4 * ((Int.toNat k_1 : Nat) : Int) + 1)) (m8.2.1 65 (4 * ((Int.toNat k_1 : Nat) : Int) + 2)) (m8.2.1 65 (4 * ((Int.toNat k_1 : Nat) : Int) + 3)) _ _)
            rw [show ((Int.toNat k_1 : Nat) : Int) = k_1 by omega]
            exact h9
          have j24n : m73.1 24 = m8.1 24 := (hc76.1 24 rfl).trans j24
          have j65n : m73.2.1 65 = m8.2.1 65 := (hc76.2.1 65 rfl).trans j65
          refine g_iinc (n := 1) (lo' := [(0, vR 61)]) rfl rfl rfl ?_
          refine g_goto rfl ?_
          exact ih13_1 _ (by omega) (k_1 + 1) m73 hm75 hf81 (by omega) j24n j65n jFn (by omega) p78 p79 jYn rfl
    exact L13_1 _ 0 m8 hm10 hf16 (by omega) rfl rfl g0 (by omega) t29 t30 gY rfl
  · intro kk84
    refine g_bipush (by decide) rfl ?_
    refine g_iret rfl rfl ?_
    have hz := p12
    exact ⟨_, _, rfl, hm10, hf16, Or.inr ⟨by rw [← hz]; omega, rfl, hc11.1 25 rfl, hc11.1 26 rfl, hc11.1 28 rfl, hc11.1 23 rfl, hc11.1 39 rfl, hc11.1 38 rfl, fun g hg => DY_of (hc11.1 26 rfl) (hc11.2.1 66 rfl) (hc11.1 30 rfl) hg⟩, t29, t30, kK_fr hc11 rfl rfl rfl h_kK⟩
