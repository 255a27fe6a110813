/-! ===== contracts: the class, parts of lines ===== -/
def kG (m : kM) : Prop := 0 ≤ m.1 15 ∧ 0 ≤ m.1 17 ∧ 0 ≤ m.1 18 ∧ 0 ≤ m.2.1 14 0 ∧ 0 ≤ m.2.1 14 1
theorem kG_fr {SF SA : List Nat} {m m' : kM} (h : fr SF SA m m') (h1 : (SF.contains 15 || SF.contains 17 || SF.contains 18) = false) (h2 : SA.contains 14 = false) (hG : kG m) : kG m' := by
  have h3 := Bool.or_eq_false_iff.mp h1
  have h4 := Bool.or_eq_false_iff.mp h3.1
  unfold kG
  rw [h.1 15 h4.1, h.1 17 h4.2, h.1 18 h3.2, h.2.1 14 h2]
  exact hG
def bcA (x : Int32) : Int32 := x - ((x >>> 1) &&& 1431655765)
theorem bc_all : ∀ x : Fin 64, True := fun _ => trivial
theorem c_begin9 {V : cg_V} {d q : Nat} (hd : 0 ≤ d) (hq : 0 ≤ q) {m : kM} (hm : kI m) {r : Int} (h_r : 2 ≤ r ∧ r ≤ 6) : cg_S V d q mX2_begin [vR 9, vI r] (kl m) (R_V (fun m' => (kI m') ∧ (fr [13, 14, 15, 16, 17, 18] [14] m m') ∧ (m'.1 13 = r) ∧ (m'.1 14 = 0) ∧ (m'.1 16 = 0) ∧ (kG m') ∧ (m'.1 18 = 0))) := by
  have hf0 : fr [13, 14, 15, 16, 17, 18] [14] m m := fr_rf m
  refine cg_of (List.mem_of_getElem? (show ae_MT[40]? = some mX2_begin from rfl)) (Nat.le_of_ble_eq_true rfl) ?_
  show cg_G V mX2_begin d q _ 0 [(0, vR 9), (1, vI r)] [] (kl m) 0 0
  refine g_aload_n (n := 0) rfl rfl ?_
  refine g_iload_n (n := 1) rfl rfl ?_
  refine g_putF (m' := (kF m 13 r)) rfl (kl_9 _) rfl rfl rfl rfl (kF_13 _ _) ?_
  have hm1 : kI (kF m 13 r) := kI_F hm 13 (show (2 : Int) ≤ r by omega) (show r ≤ (6 : Int) by omega)
  have hf2 : fr [13, 14, 15, 16, 17, 18] [14] m (kF m 13 r) := fr_F hf0 13 _ rfl
  refine g_aload_n (n := 0) rfl rfl ?_
  refine g_iconst rfl ?_
  refine g_putF (m' := (kF (kF m 13 r) 14 0)) rfl (kl_9 _) rfl rfl rfl rfl (kF_14 _ _) ?_
  have hm3 : kI (kF (kF m 13 r) 14 0) := kI_F hm1 14 (show (0 : Int) ≤ 0 by omega) (show 0 ≤ (10 : Int) by omega)
  have hf4 : fr [13, 14, 15, 16, 17, 18] [14] m (kF (kF m 13 r) 14 0) := fr_F hf2 14 _ rfl
  refine g_aload_n (n := 0) rfl rfl ?_
  refine g_iconst rfl ?_
  refine g_putF (m' := (kF (kF (kF m 13 r) 14 0) 15 0)) rfl (kl_9 _) rfl rfl rfl rfl (kF_15 _ _) ?_
  have hm5 : kI (kF (kF (kF m 13 r) 14 0) 15 0) := kI_F hm3 15 (show ((-1) : Int) ≤ 0 by omega) (show 0 ≤ (5 : Int) by omega)
  have hf6 : fr [13, 14, 15, 16, 17, 18] [14] m (kF (kF (kF m 13 r) 14 0) 15 0) := fr_F hf4 15 _ rfl
  refine g_aload_n (n := 0) rfl rfl ?_
  refine g_iconst rfl ?_
  refine g_putF (m' := (kF (kF (kF (kF m 13 r) 14 0) 15 0) 16 0)) rfl (kl_9 _) rfl rfl rfl rfl (kF_16 _ _) ?_
  have hm7 : kI (kF (kF (kF (kF m 13 r) 14 0) 15 0) 16 0) := kI_F hm5 16 (show (0 : Int) ≤ 0 by omega) (show 0 ≤ (63 : Int) by omega)
  have hf8 : fr [13, 14, 15, 16, 17, 18] [14] m (kF (kF (kF (kF m 13 r) 14 0) 15 0) 16 0) := fr_F hf6 16 _ rfl
  refine g_aload_n (n := 0) rfl rfl ?_
  refine g_iconst rfl ?_
  refine g_putF (m' := (kF (kF (kF (kF (kF m 13 r) 14 0) 15 0) 16 0) 17 0)) rfl (kl_9 _) rfl rfl rfl rfl (kF_17 _ _) ?_
  have hm9 : kI (kF (kF (kF (kF (kF m 13 r) 14 0) 15 0) 16 0) 17 0) := kI_F hm7 17 (show ((-1) : Int) ≤ 0 by omega) (show 0 ≤ (3 : Int) by omega)
  have hf10 : fr [13, 14, 15, 16, 17, 18] [14] m (kF (kF (kF (kF (kF m 13 r) 14 0) 15 0) 16 0) 17 0) := fr_F hf8 17 _ rfl
  refine g_aload_n (n := 0) rfl rfl ?_
  refine g_iconst rfl ?_
  refine g_putF (m' := (kF (kF (kF (kF (kF (kF m 13 r) 14 0) 15 0) 16 0) 17 0) 18 0)) rfl (kl_9 _) rfl rfl rfl rfl (kF_18 _ _) ?_
  have hm11 : kI (kF (kF (kF (kF (kF (kF m 13 r) 14 0) 15 0) 16 0) 17 0) 18 0) := kI_F hm9 18 (show ((-1) : Int) ≤ 0 by omega) (show 0 ≤ (5 : Int) by omega)
  have hf12 : fr [13, 14, 15, 16, 17, 18] [14] m (kF (kF (kF (kF (kF (kF m 13 r) 14 0) 15 0) 16 0) 17 0) 18 0) := fr_F hf10 18 _ rfl
  refine g_aload_n (n := 0) rfl rfl ?_
  refine g_getf (v := vR 14) rfl (kl_9 _) rfl ?_
  refine g_iconst rfl ?_
  refine g_iconst rfl ?_
  refine g_iAst (f := m.2.1 14) (m' := (kA (kF (kF (kF (kF (kF (kF m 13 r) 14 0) 15 0) 16 0) 17 0) 18 0) 14 (up (m.2.1 14) 0 0))) rfl (kl_14 _) (by decide) (by omega) (by omega) (kA_14 _ _) ?_
  have hm13 : kI (kA (kF (kF (kF (kF (kF (kF m 13 r) 14 0) 15 0) 16 0) 17 0) 18 0) 14 (up (m.2.1 14) 0 0)) := kI_U hm11 14 rfl (show ((-1) : Int) ≤ 0 by omega) (show 0 ≤ (5 : Int) by omega)
  have hf14 : fr [13, 14, 15, 16, 17, 18] [14] m (kA (kF (kF (kF (kF (kF (kF m 13 r) 14 0) 15 0) 16 0) 17 0) 18 0) 14 (up (m.2.1 14) 0 0)) := fr_A hf12 14 _ rfl
  refine g_aload_n (n := 0) rfl rfl ?_
  refine g_getf (v := vR 14) rfl (kl_9 _) rfl ?_
  refine g_iconst rfl ?_
  refine g_iconst rfl ?_
  refine g_iAst (f := up (m.2.1 14) 0 0) (m' := (kA (kA (kF (kF (kF (kF (kF (kF m 13 r) 14 0) 15 0) 16 0) 17 0) 18 0) 14 (up (m.2.1 14) 0 0)) 14 (up (up (m.2.1 14) 0 0) 1 0))) rfl (kl_14 _) (by decide) (by omega) (by omega) (kA_14 _ _) ?_
  have hm15 : kI (kA (kA (kF (kF (kF (kF (kF (kF m 13 r) 14 0) 15 0) 16 0) 17 0) 18 0) 14 (up (m.2.1 14) 0 0)) 14 (up (up (m.2.1 14) 0 0) 1 0)) := kI_U hm13 14 rfl (show ((-1) : Int) ≤ 0 by omega) (show 0 ≤ (5 : Int) by omega)
  have hf16 : fr [13, 14, 15, 16, 17, 18] [14] m (kA (kA (kF (kF (kF (kF (kF (kF m 13 r) 14 0) 15 0) 16 0) 17 0) 18 0) 14 (up (m.2.1 14) 0 0)) 14 (up (up (m.2.1 14) 0 0) 1 0)) := fr_A hf14 14 _ rfl
  refine g_vret rfl rfl ?_
  exact ⟨_, rfl, hm15, hf16, rfl, rfl, rfl, (by unfold kG; exact ⟨Int.le_refl 0, Int.le_refl 0, Int.le_refl 0, Int.le_refl 0, Int.le_refl 0⟩), rfl⟩
theorem c_isHungry9 {V : cg_V} {d q : Nat} (hd : 0 ≤ d) (hq : 0 ≤ q) {m : kM} (hm : kI m) {r : Int} (h_r : 0 ≤ r ∧ r ≤ 5) : cg_S V d q mX2_isHungry [vR 9, vI r] (kl m) (R_I (fun z m' => (m = m') ∧ ((z = 1 ∧ hb (m.1 16) r = 1) ∨ (z = 0 ∧ hb (m.1 16) r ≠ 1)))) := by
  refine cg_of (List.mem_of_getElem? (show ae_MT[45]? = some mX2_isHungry from rfl)) (Nat.le_of_ble_eq_true rfl) ?_
  show cg_G V mX2_isHungry d q _ 0 [(0, vR 9), (1, vI r)] [] (kl m) 0 0
  have h1 : 0 ≤ m.1 16 ∧ m.1 16 ≤ 63 := hm.1 16
  refine g_aload_n (n := 0) rfl rfl ?_
  refine g_getf (v := vI (m.1 16)) rfl (kl_9 _) rfl ?_
  refine g_iload_n (n := 1) rfl rfl ?_
  refine g_ishr rfl ?_
  intro z2 h3 h4 h5
  have h6 : z2 = m.1 16 / 2 ^ (Int.toNat (r)) := b_shr h3 (by omega) (by omega) (by omega) (by omega)
  refine g_iconst rfl ?_
  refine g_iand rfl ?_
  intro z7 h8 h9 h10
  have h11 : z7 = z2 % 2 := b_modN (k := 1) h8 (by decide) (by decide) (by decide)
  refine g_iconst rfl ?_
  refine g_icmp_ne (by omega) (by omega) (by decide) (by decide) rfl ?_ ?_
  · intro kk12
    refine g_iconst rfl ?_
    refine g_zret rfl rfl (by omega) ?_
    exact ⟨_, _, rfl, rfl, (by show _ ∨ _; unfold hb; omega)⟩
  · intro kk13
    refine g_iconst rfl ?_
    refine g_goto rfl ?_
    refine g_zret rfl rfl (by omega) ?_
    exact ⟨_, _, rfl, rfl, (by show _ ∨ _; unfold hb; omega)⟩
theorem c_addDoor9 {V : cg_V} {d q : Nat} (hd : 0 ≤ d) (hq : 0 ≤ q) {m : kM} (hm : kI m) {k f t w : Int} (h_k : 0 ≤ k ∧ k ≤ 5) (h_f : 0 ≤ f ∧ f ≤ 5) (h_t : 0 ≤ t ∧ t ≤ 5) (h_w : 0 ≤ w ∧ w ≤ 1) (hv : m.1 14 < 10) : cg_S V d q mX2_addDoor [vR 9, vI k, vI f, vI t, vI w] (kl m) (R_V (fun m' => (kI m') ∧ (fr [14] [10, 11, 12, 13] m m') ∧ (m'.1 14 = m.1 14 + 1) ∧ (m'.2.1 10 = up (m.2.1 10) (m.1 14) f) ∧ (m'.2.1 11 = up (m.2.1 11) (m.1 14) t) ∧ (m'.2.1 12 = up (m.2.1 12) (m.1 14) k) ∧ (m'.2.1 13 = up (m.2.1 13) (m.1 14) w))) := by
  have hf0 : fr [14] [10, 11, 12, 13] m m := fr_rf m
  refine cg_of (List.mem_of_getElem? (show ae_MT[43]? = some mX2_addDoor from rfl)) (Nat.le_of_ble_eq_true rfl) ?_
  show cg_G V mX2_addDoor d q _ 0 [(0, vR 9), (1, vI k), (2, vI f), (3, vI t), (4, vI w)] [] (kl m) 0 0
  have h1 : 0 ≤ m.1 14 ∧ m.1 14 ≤ 10 := hm.1 14
  refine g_aload_n (n := 0) rfl rfl ?_
  refine g_getf (v := vI (m.1 14)) rfl (kl_9 _) rfl ?_
  refine g_bipush (by decide) rfl ?_
  refine g_icmp_lt (by omega) (by omega) (by decide) (by decide) rfl ?_ ?_
  · intro kk2
    refine g_aload_n (n := 0) rfl rfl ?_
    refine g_getf (v := vR 10) rfl (kl_9 _) rfl ?_
    refine g_aload_n (n := 0) rfl rfl ?_
    refine g_getf (v := vI (m.1 14)) rfl (kl_9 _) rfl ?_
    refine g_iload_n (n := 2) rfl rfl ?_
    refine g_iAst (f := m.2.1 10) (m' := (kA m 10 (up (m.2.1 10) (m.1 14) f))) rfl (kl_10 _) (by decide) (by omega) (by omega) (kA_10 _ _) ?_
    have hm3 : kI (kA m 10 (up (m.2.1 10) (m.1 14) f)) := kI_U hm 10 rfl (show (0 : Int) ≤ f by omega) (show f ≤ (5 : Int) by omega)
    have hf4 : fr [14] [10, 11, 12, 13] m (kA m 10 (up (m.2.1 10) (m.1 14) f)) := fr_A hf0 10 _ rfl
    refine g_aload_n (n := 0) rfl rfl ?_
    refine g_getf (v := vR 11) rfl (kl_9 _) rfl ?_
    refine g_aload_n (n := 0) rfl rfl ?_
    refine g_getf (v := vI (m.1 14)) rfl (kl_9 _) rfl ?_
    refine g_iload_n (n := 3) rfl rfl ?_
    refine g_iAst (f := m.2.1 11) (m' := (kA (kA m 10 (up (m.2.1 10) (m.1 14) f)) 11 (up (m.2.1 11) (m.1 14) t))) rfl (kl_11 _) (by decide) (by omega) (by omega) (kA_11 _ _) ?_
    have hm5 : kI (kA (kA m 10 (up (m.2.1 10) (m.1 14) f)) 11 (up (m.2.1 11) (m.1 14) t)) := kI_U hm3 11 rfl (show (0 : Int) ≤ t by omega) (show t ≤ (5 : Int) by omega)
    have hf6 : fr [14] [10, 11, 12, 13] m (kA (kA m 10 (up (m.2.1 10) (m.1 14) f)) 11 (up (m.2.1 11) (m.1 14) t)) := fr_A hf4 11 _ rfl
    refine g_aload_n (n := 0) rfl rfl ?_
    refine g_getf (v := vR 12) rfl (kl_9 _) rfl ?_
    refine g_aload_n (n := 0) rfl rfl ?_
    refine g_getf (v := vI (m.1 14)) rfl (kl_9 _) rfl ?_
    refine g_iload_n (n := 1) rfl rfl ?_
    refine g_iAst (f := m.2.1 12) (m' := (kA (kA (kA m 10 (up (m.2.1 10) (m.1 14) f)) 11 (up (m.2.1 11) (m.1 14) t)) 12 (up (m.2.1 12) (m.1 14) k))) rfl (kl_12 _) (by decide) (by omega) (by omega) (kA_12 _ _) ?_
    have hm7 : kI (kA (kA (kA m 10 (up (m.2.1 10) (m.1 14) f)) 11 (up (m.2.1 11) (m.1 14) t)) 12 (up (m.2.1 12) (m.1 14) k)) := kI_U hm5 12 rfl (show (0 : Int) ≤ k by omega) (show k ≤ (5 : Int) by omega)
    have hf8 : fr [14] [10, 11, 12, 13] m (kA (kA (kA m 10 (up (m.2.1 10) (m.1 14) f)) 11 (up (m.2.1 11) (m.1 14) t)) 12 (up (m.2.1 12) (m.1 14) k)) := fr_A hf6 12 _ rfl
    refine g_aload_n (n := 0) rfl rfl ?_
    refine g_getf (v := vR 13) rfl (kl_9 _) rfl ?_
    refine g_aload_n (n := 0) rfl rfl ?_
    refine g_getf (v := vI (m.1 14)) rfl (kl_9 _) rfl ?_
    refine g_iload (n := 4) rfl rfl ?_
    refine g_iAst (f := m.2.1 13) (m' := (kA (kA (kA (kA m 10 (up (m.2.1 10) (m.1 14) f)) 11 (up (m.2.1 11) (m.1 14) t)) 12 (up (m.2.1 12) (m.1 14) k)) 13 (up (m.2.1 13) (m.1 14) w))) rfl (kl_13 _) (by decide) (by omega) (by omega) (kA_13 _ _) ?_
    have hm9 : kI (kA (kA (kA (kA m 10 (up (m.2.1 10) (m.1 14) f)) 11 (up (m.2.1 11) (m.1 14) t)) 12 (up (m.2.1 12) (m.1 14) k)) 13 (up (m.2.1 13) (m.1 14) w)) := kI_U hm7 13 rfl (show (0 : Int) ≤ w by omega) (show w ≤ (1 : Int) by omega)
    have hf10 : fr [14] [10, 11, 12, 13] m (kA (kA (kA (kA m 10 (up (m.2.1 10) (m.1 14) f)) 11 (up (m.2.1 11) (m.1 14) t)) 12 (up (m.2.1 12) (m.1 14) k)) 13 (up (m.2.1 13) (m.1 14) w)) := fr_A hf8 13 _ rfl
    refine g_aload_n (n := 0) rfl rfl ?_
    refine g_dup rfl rfl ?_
    refine g_getf (v := vI (m.1 14)) rfl (kl_9 _) rfl ?_
    refine g_iconst rfl ?_
    refine g_iadd rfl ?_
    refine g_putF (m' := (kF (kA (kA (kA (kA m 10 (up (m.2.1 10) (m.1 14) f)) 11 (up (m.2.1 11) (m.1 14) t)) 12 (up (m.2.1 12) (m.1 14) k)) 13 (up (m.2.1 13) (m.1 14) w)) 14 (m.1 14 + 1))) rfl (kl_9 _) rfl rfl rfl rfl (kF_14 _ _) ?_
    have hm11 : kI (kF (kA (kA (kA (kA m 10 (up (m.2.1 10) (m.1 14) f)) 11 (up (m.2.1 11) (m.1 14) t)) 12 (up (m.2.1 12) (m.1 14) k)) 13 (up (m.2.1 13) (m.1 14) w)) 14 (m.1 14 + 1)) := kI_F hm9 14 (show (0 : Int) ≤ (m.1 14 + 1) by omega) (show (m.1 14 + 1) ≤ (10 : Int) by omega)
    have hf12 : fr [14] [10, 11, 12, 13] m (kF (kA (kA (kA (kA m 10 (up (m.2.1 10) (m.1 14) f)) 11 (up (m.2.1 11) (m.1 14) t)) 12 (up (m.2.1 12) (m.1 14) k)) 13 (up (m.2.1 13) (m.1 14) w)) 14 (m.1 14 + 1)) := fr_F hf10 14 _ rfl
    refine g_vret rfl rfl ?_
    exact ⟨_, rfl, hm11, hf12, rfl, rfl, rfl, rfl, rfl⟩
  · intro kk13
    refine g_vret rfl rfl ?_
    exfalso; omega
theorem c_readGaol {V : cg_V} {d q : Nat} (hd : 3 ≤ d) (hq : 64 ≤ q) {m : kM} (hm : kI m) (he : m.1 6 ≤ m.1 3) : cg_S V d q mX6_readGaol [vR 1, vR 9] (kl m) (R_I (fun z m' => (kI m') ∧ (fr [5, 6, 13, 14, 15, 16, 17, 18] [14] m m') ∧ ((z = 1 ∧ NUM (m.2.1 2) (m.1 3) 2 6 (m.1 6) ≠ -1 ∧ m'.1 13 = NUM (m.2.1 2) (m.1 3) 2 6 (m.1 6) ∧ m'.1 14 = 0 ∧ m'.1 16 = 0 ∧ kG m' ∧ m'.1 18 = 0) ∨ (z = 0 ∧ NUM (m.2.1 2) (m.1 3) 2 6 (m.1 6) = -1)) ∧ (m'.1 5 = SK (m.2.1 2) (m.1 3) (m.1 6)) ∧ (m'.1 6 = EP (m.2.1 2) (m.1 3) (m.1 6)))) := by
  have hf0 : fr [5, 6, 13, 14, 15, 16, 17, 18] [14] m m := fr_rf m
  refine cg_of (List.mem_of_getElem? (show ae_MT[75]? = some mX6_readGaol from rfl)) (Nat.le_of_ble_eq_true rfl) ?_
  show cg_G V mX6_readGaol d q _ 0 [(0, vR 1), (1, vR 9)] [] (kl m) 0 0
  have h1 : 0 ≤ m.1 3 ∧ m.1 3 ≤ 200 := hm.1 3
  have h2 : 0 ≤ m.1 6 ∧ m.1 6 ≤ 200 := hm.1 6
  refine g_aload_n (n := 0) rfl rfl ?_
  refine g_iconst rfl ?_
  refine g_bipush (by decide) rfl ?_
  refine c_vI (i := 1) (ps := [vI 6, vI 2]) (r := []) (as := [vR 1, vI 2, vI 6]) (cs' := 0) (sl' := 0) rfl rfl rfl rfl rfl rfl (kl_1 _) (c_nextNumber (d := d - 1) (q := q - (5 + 19)) (by omega) (by omega) hm (a := 2) (b := 6) (show 0 ≤ 2 ∧ 2 ≤ 6 by omega) (show 0 ≤ 6 ∧ 6 ≤ 6 by omega) (by omega)) (by omega) (show 5 + 19 ≤ q by omega) (Nat.le_of_ble_eq_true rfl) (Nat.le_of_ble_eq_true rfl) rfl rfl rfl ?_
  rintro z3 m4 ⟨hm6, hc7, p8, p9, p10, p11, p12, p13⟩
  have hf14 : fr [5, 6, 13, 14, 15, 16, 17, 18] [14] m m4 := fr_tr hf0 (fr_le hc7 rfl rfl)
  have h15 : m4.1 3 = m.1 3 := hc7.1 3 rfl
  have h16 : 0 ≤ m4.1 3 ∧ m4.1 3 ≤ 200 := hm6.1 3
  refine g_istore_n (n := 2) (lo' := [(0, vR 1), (1, vR 9)]) rfl rfl ?_
  refine g_iload_n (n := 2) rfl rfl ?_
  refine g_iconst rfl ?_
  refine g_icmp_ne (by omega) (by omega) (by decide) (by decide) rfl ?_ ?_
  · intro kk17
    refine g_aload_n (n := 1) rfl rfl ?_
    refine g_iload_n (n := 2) rfl rfl ?_
    refine c_vV (i := 9) (ps := [vI z3]) (r := []) (as := [vR 9, vI z3]) (cs' := 0) (sl' := 0) rfl rfl rfl rfl rfl rfl (kl_9 _) (c_begin9 (d := d - 1) (q := q - (2 + 19)) (by omega) (by omega) hm6 (r := z3) (show 2 ≤ z3 ∧ z3 ≤ 6 by omega)) (by omega) (show 2 + 19 ≤ q by omega) (Nat.le_of_ble_eq_true rfl) (Nat.le_of_ble_eq_true rfl) rfl rfl rfl ?_
    rintro m19 ⟨hm21, hc22, p23, p24, p25, p26, p27⟩
    have hf28 : fr [5, 6, 13, 14, 15, 16, 17, 18] [14] m m19 := fr_tr hf14 (fr_le hc22 rfl rfl)
    have h29 : m19.1 3 = m4.1 3 := hc22.1 3 rfl
    have h30 : 0 ≤ m19.1 3 ∧ m19.1 3 ≤ 200 := hm21.1 3
    refine g_iconst rfl ?_
    refine g_zret rfl rfl (by omega) ?_
    exact ⟨_, _, rfl, hm21, hf28, Or.inl ⟨rfl, by omega, p23.trans p8, p24, p25, p26, p27⟩, (hc22.1 5 rfl).trans p9, (hc22.1 6 rfl).trans p10⟩
  · intro kk31
    refine g_iconst rfl ?_
    refine g_zret rfl rfl (by omega) ?_
    exact ⟨_, _, rfl, hm6, hf14, Or.inr ⟨rfl, by omega⟩, p9, p10⟩
theorem c_bitCount {V : cg_V} {d q : Nat} (hd : 0 ≤ d) (hq : 0 ≤ q) {m : kM} (hm : kI m) {x : Int} (h_x : 0 ≤ x ∧ x ≤ 63) : cg_S V d q mJ6_bitCount_0f7a4 [vI x] (kl m) (R_I (fun z m' => (m = m') ∧ (z = pcn x) ∧ (0 ≤ z) ∧ (z ≤ 6))) := by
  refine cg_of (List.mem_of_getElem? (show ae_MT[76]? = some mJ6_bitCount_0f7a4 from rfl)) (Nat.le_of_ble_eq_true rfl) ?_
  show cg_G V mJ6_bitCount_0f7a4 d q _ 0 [(0, vI x)] [] (kl m) 0 0
  have h1 : x = 0 ∨ x = 1 ∨ x = 2 ∨ x = 3 ∨ x = 4 ∨ x = 5 ∨ x = 6 ∨ x = 7 ∨ x = 8 ∨ x = 9 ∨ x = 10 ∨ x = 11 ∨ x = 12 ∨ x = 13 ∨ x = 14 ∨ x = 15 ∨ x = 16 ∨ x = 17 ∨ x = 18 ∨ x = 19 ∨ x = 20 ∨ x = 21 ∨ x = 22 ∨ x = 23 ∨ x = 24 ∨ x = 25 ∨ x = 26 ∨ x = 27 ∨ x = 28 ∨ x = 29 ∨ x = 30 ∨ x = 31 ∨ x = 32 ∨ x = 33 ∨ x = 34 ∨ x = 35 ∨ x = 36 ∨ x = 37 ∨ x = 38 ∨ x = 39 ∨ x = 40 ∨ x = 41 ∨ x = 42 ∨ x = 43 ∨ x = 44 ∨ x = 45 ∨ x = 46 ∨ x = 47 ∨ x = 48 ∨ x = 49 ∨ x = 50 ∨ x = 51 ∨ x = 52 ∨ x = 53 ∨ x = 54 ∨ x = 55 ∨ x = 56 ∨ x = 57 ∨ x = 58 ∨ x = 59 ∨ x = 60 ∨ x = 61 ∨ x = 62 ∨ x = 63 := by omega
  rcases h1 with rfl | rfl | rfl | rfl | rfl | rfl | rfl | rfl | rfl | rfl | rfl | rfl | rfl | rfl | rfl | rfl | rfl | rfl | rfl | rfl | rfl | rfl | rfl | rfl | rfl | rfl | rfl | rfl | rfl | rfl | rfl | rfl | rfl | rfl | rfl | rfl | rfl | rfl | rfl | rfl | rfl | rfl | rfl | rfl | rfl | rfl | rfl | rfl | rfl | rfl | rfl | rfl | rfl | rfl | rfl | rfl | rfl | rfl | rfl | rfl | rfl | rfl | rfl | rfl
  · refine g_iload_n (n := 0) rfl rfl ?_
    refine g_iload_n (n := 0) rfl rfl ?_
    refine g_iconst rfl ?_
    refine g_iushr rfl ?_
    intro z2 h3 h4 h5
    have h6 : z2 = 0 := h3.trans (by decide)
    subst h6
    refine g_ldcw (n := 265) (x := 1431655765) (by decide +kernel) (show decode cJ6_bitCount_0f7a4 4 = .ok (.ldc_w 265, 3) by decide +kernel) ?_
    refine g_iand rfl ?_
    intro z7 h8 h9 h10
    have h11 : z7 = 0 := h8.trans (by decide)
    subst h11
    refine g_isubE (z := 0) (by decide) rfl ?_
    refine g_istore_n (n := 0) (lo' := []) rfl rfl ?_
    refine g_iload_n (n := 0) rfl rfl ?_
    refine g_ldcw (n := 266) (x := 858993459) (by decide +kernel) (show decode cJ6_bitCount_0f7a4 11 = .ok (.ldc_w 266, 3) by decide +kernel) ?_
    refine g_iand rfl ?_
    intro z12 h13 h14 h15
    have h16 : z12 = 0 := h13.trans (by decide)
    subst h16
    refine g_iload_n (n := 0) rfl rfl ?_
    refine g_iconst rfl ?_
    refine g_iushr rfl ?_
    intro z17 h18 h19 h20
    have h21 : z17 = 0 := h18.trans (by decide)
    subst h21
    refine g_ldcw (n := 266) (x := 858993459) (by decide +kernel) (show decode cJ6_bitCount_0f7a4 18 = .ok (.ldc_w 266, 3) by decide +kernel) ?_
    refine g_iand rfl ?_
    intro z22 h23 h24 h25
    have h26 : z22 = 0 := h23.trans (by decide)
    subst h26
    refine g_iaddE (z := 0) (by decide) rfl ?_
    refine g_istore_n (n := 0) (lo' := []) rfl rfl ?_
    refine g_iload_n (n := 0) rfl rfl ?_
    refine g_iload_n (n := 0) rfl rfl ?_
    refine g_iconst rfl ?_
    refine g_iushr rfl ?_
    intro z27 h28 h29 h30
    have h31 : z27 = 0 := h28.trans (by decide)
    subst h31
    refine g_iaddE (z := 0) (by decide) rfl ?_
    refine g_ldcw (n := 267) (x := 252645135) (by decide +kernel) (show decode cJ6_bitCount_0f7a4 29 = .ok (.ldc_w 267, 3) by decide +kernel) ?_
    refine g_iand rfl ?_
    intro z32 h33 h34 h35
    have h36 : z32 = 0 := h33.trans (by decide)
    subst h36
    refine g_istore_n (n := 0) (lo' := []) rfl rfl ?_
    refine g_iload_n (n := 0) rfl rfl ?_
    refine g_iload_n (n := 0) rfl rfl ?_
    refine g_bipush (by decide) rfl ?_
    refine g_iushr rfl ?_
    intro z37 h38 h39 h40
    have h41 : z37 = 0 := h38.trans (by decide)
    subst h41
    refine g_iaddE (z := 0) (by decide) rfl ?_
    refine g_istore_n (n := 0) (lo' := []) rfl rfl ?_
    refine g_iload_n (n := 0) rfl rfl ?_
    refine g_iload_n (n := 0) rfl rfl ?_
    refine g_bipush (by decide) rfl ?_
    refine g_iushr rfl ?_
    intro z42 h43 h44 h45
    have h46 : z42 = 0 := h43.trans (by decide)
    subst h46
    refine g_iaddE (z := 0) (by decide) rfl ?_
    refine g_istore_n (n := 0) (lo' := []) rfl rfl ?_
    refine g_iload_n (n := 0) rfl rfl ?_
    refine g_bipush (by decide) rfl ?_
    refine g_iand rfl ?_
    intro z47 h48 h49 h50
    have h51 : z47 = 0 := h48.trans (by decide)
    subst h51
    refine g_iret rfl rfl ?_
    exact ⟨_, _, rfl, rfl, by decide, by decide, by decide⟩
  · refine g_iload_n (n := 0) rfl rfl ?_
    refine g_iload_n (n := 0) rfl rfl ?_
    refine g_iconst rfl ?_
    refine g_iushr rfl ?_
    intro z52 h53 h54 h55
    have h56 : z52 = 0 := h53.trans (by decide)
    subst h56
    refine g_ldcw (n := 265) (x := 1431655765) (by decide +kernel) (show decode cJ6_bitCount_0f7a4 4 = .ok (.ldc_w 265, 3) by decide +kernel) ?_
    refine g_iand rfl ?_
    intro z57 h58 h59 h60
    have h61 : z57 = 0 := h58.trans (by decide)
    subst h61
    refine g_isubE (z := 1) (by decide) rfl ?_
    refine g_istore_n (n := 0) (lo' := []) rfl rfl ?_
    refine g_iload_n (n := 0) rfl rfl ?_
    refine g_ldcw (n := 266) (x := 858993459) (by decide +kernel) (show decode cJ6_bitCount_0f7a4 11 = .ok (.ldc_w 266, 3) by decide +kernel) ?_
    refine g_iand rfl ?_
    intro z62 h63 h64 h65
    have h66 : z62 = 1 := h63.trans (by decide)
    subst h66
    refine g_iload_n (n := 0) rfl rfl ?_
    refine g_iconst rfl ?_
    refine g_iushr rfl ?_
    intro z67 h68 h69 h70
    have h71 : z67 = 0 := h68.trans (by decide)
    subst h71
    refine g_ldcw (n := 266) (x := 858993459) (by decide +kernel) (show decode cJ6_bitCount_0f7a4 18 = .ok (.ldc_w 266, 3) by decide +kernel) ?_
    refine g_iand rfl ?_
    intro z72 h73 h74 h75
    have h76 : z72 = 0 := h73.trans (by decide)
    subst h76
    refine g_iaddE (z := 1) (by decide) rfl ?_
    refine g_istore_n (n := 0) (lo' := []) rfl rfl ?_
    refine g_iload_n (n := 0) rfl rfl ?_
    refine g_iload_n (n := 0) rfl rfl ?_
    refine g_iconst rfl ?_
    refine g_iushr rfl ?_
    intro z77 h78 h79 h80
    have h81 : z77 = 0 := h78.trans (by decide)
    subst h81
    refine g_iaddE (z := 1) (by decide) rfl ?_
    refine g_ldcw (n := 267) (x := 252645135) (by decide +kernel) (show decode cJ6_bitCount_0f7a4 29 = .ok (.ldc_w 267, 3) by decide +kernel) ?_
    refine g_iand rfl ?_
    intro z82 h83 h84 h85
    have h86 : z82 = 1 := h83.trans (by decide)
    subst h86
    refine g_istore_n (n := 0) (lo' := []) rfl rfl ?_
    refine g_iload_n (n := 0) rfl rfl ?_
    refine g_iload_n (n := 0) rfl rfl ?_
    refine g_bipush (by decide) rfl ?_
    refine g_iushr rfl ?_
    intro z87 h88 h89 h90
    have h91 : z87 = 0 := h88.trans (by decide)
    subst h91
    refine g_iaddE (z := 1) (by decide) rfl ?_
    refine g_istore_n (n := 0) (lo' := []) rfl rfl ?_
    refine g_iload_n (n := 0) rfl rfl ?_
    refine g_iload_n (n := 0) rfl rfl ?_
    refine g_bipush (by decide) rfl ?_
    refine g_iushr rfl ?_
    intro z92 h93 h94 h95
    have h96 : z92 = 0 := h93.trans (by decide)
    subst h96
    refine g_iaddE (z := 1) (by decide) rfl ?_
    refine g_istore_n (n := 0) (lo' := []) rfl rfl ?_
    refine g_iload_n (n := 0) rfl rfl ?_
    refine g_bipush (by decide) rfl ?_
    refine g_iand rfl ?_
    intro z97 h98 h99 h100
    have h101 : z97 = 1 := h98.trans (by decide)
    subst h101
    refine g_iret rfl rfl ?_
    exact ⟨_, _, rfl, rfl, by decide, by decide, by decide⟩
  · refine g_iload_n (n := 0) rfl rfl ?_
    refine g_iload_n (n := 0) rfl rfl ?_
    refine g_iconst rfl ?_
    refine g_iushr rfl ?_
    intro z102 h103 h104 h105
    have h106 : z102 = 1 := h103.trans (by decide)
    subst h106
    refine g_ldcw (n := 265) (x := 1431655765) (by decide +kernel) (show decode cJ6_bitCount_0f7a4 4 = .ok (.ldc_w 265, 3) by decide +kernel) ?_
    refine g_iand rfl ?_
    intro z107 h108 h109 h110
    have h111 : z107 = 1 := h108.trans (by decide)
    subst h111
    refine g_isubE (z := 1) (by decide) rfl ?_
    refine g_istore_n (n := 0) (lo' := []) rfl rfl ?_
    refine g_iload_n (n := 0) rfl rfl ?_
    refine g_ldcw (n := 266) (x := 858993459) (by decide +kernel) (show decode cJ6_bitCount_0f7a4 11 = .ok (.ldc_w 266, 3) by decide +kernel) ?_
    refine g_iand rfl ?_
    intro z112 h113 h114 h115
    have h116 : z112 = 1 := h113.trans (by decide)
    subst h116
    refine g_iload_n (n := 0) rfl rfl ?_
    refine g_iconst rfl ?_
    refine g_iushr rfl ?_
    intro z117 h118 h119 h120
    have h121 : z117 = 0 := h118.trans (by decide)
    subst h121
    refine g_ldcw (n := 266) (x := 858993459) (by decide +kernel) (show decode cJ6_bitCount_0f7a4 18 = .ok (.ldc_w 266, 3) by decide +kernel) ?_
    refine g_iand rfl ?_
    intro z122 h123 h124 h125
    have h126 : z122 = 0 := h123.trans (by decide)
    subst h126
    refine g_iaddE (z := 1) (by decide) rfl ?_
    refine g_istore_n (n := 0) (lo' := []) rfl rfl ?_
    refine g_iload_n (n := 0) rfl rfl ?_
    refine g_iload_n (n := 0) rfl rfl ?_
    refine g_iconst rfl ?_
    refine g_iushr rfl ?_
    intro z127 h128 h129 h130
    have h131 : z127 = 0 := h128.trans (by decide)
    subst h131
    refine g_iaddE (z := 1) (by decide) rfl ?_
    refine g_ldcw (n := 267) (x := 252645135) (by decide +kernel) (show decode cJ6_bitCount_0f7a4 29 = .ok (.ldc_w 267, 3) by decide +kernel) ?_
    refine g_iand rfl ?_
    intro z132 h133 h134 h135
    have h136 : z132 = 1 := h133.trans (by decide)
    subst h136
    refine g_istore_n (n := 0) (lo' := []) rfl rfl ?_
    refine g_iload_n (n := 0) rfl rfl ?_
    refine g_iload_n (n := 0) rfl rfl ?_
    refine g_bipush (by decide) rfl ?_
    refine g_iushr rfl ?_
    intro z137 h138 h139 h140
    have h141 : z137 = 0 := h138.trans (by decide)
    subst h141
    refine g_iaddE (z := 1) (by decide) rfl ?_
    refine g_istore_n (n := 0) (lo' := []) rfl rfl ?_
    refine g_iload_n (n := 0) rfl rfl ?_
    refine g_iload_n (n := 0) rfl rfl ?_
    refine g_bipush (by decide) rfl ?_
    refine g_iushr rfl ?_
    intro z142 h143 h144 h145
    have h146 : z142 = 0 := h143.trans (by decide)
    subst h146
    refine g_iaddE (z := 1) (by decide) rfl ?_
    refine g_istore_n (n := 0) (lo' := []) rfl rfl ?_
    refine g_iload_n (n := 0) rfl rfl ?_
    refine g_bipush (by decide) rfl ?_
    refine g_iand rfl ?_
    intro z147 h148 h149 h150
    have h151 : z147 = 1 := h148.trans (by decide)
    subst h151
    refine g_iret rfl rfl ?_
    exact ⟨_, _, rfl, rfl, by decide, by decide, by decide⟩
  · refine g_iload_n (n := 0) rfl rfl ?_
    refine g_iload_n (n := 0) rfl rfl ?_
    refine g_iconst rfl ?_
    refine g_iushr rfl ?_
    intro z152 h153 h154 h155
    have h156 : z152 = 1 := h153.trans (by decide)
    subst h156
    refine g_ldcw (n := 265) (x := 1431655765) (by decide +kernel) (show decode cJ6_bitCount_0f7a4 4 = .ok (.ldc_w 265, 3) by decide +kernel) ?_
    refine g_iand rfl ?_
    intro z157 h158 h159 h160
    have h161 : z157 = 1 := h158.trans (by decide)
    subst h161
    refine g_isubE (z := 2) (by decide) rfl ?_
    refine g_istore_n (n := 0) (lo' := []) rfl rfl ?_
    refine g_iload_n (n := 0) rfl rfl ?_
    refine g_ldcw (n := 266) (x := 858993459) (by decide +kernel) (show decode cJ6_bitCount_0f7a4 11 = .ok (.ldc_w 266, 3) by decide +kernel) ?_
    refine g_iand rfl ?_
    intro z162 h163 h164 h165
    have h166 : z162 = 2 := h163.trans (by decide)
    subst h166
    refine g_iload_n (n := 0) rfl rfl ?_
    refine g_iconst rfl ?_
    refine g_iushr rfl ?_
    intro z167 h168 h169 h170
    have h171 : z167 = 0 := h168.trans (by decide)
    subst h171
    refine g_ldcw (n := 266) (x := 858993459) (by decide +kernel) (show decode cJ6_bitCount_0f7a4 18 = .ok (.ldc_w 266, 3) by decide +kernel) ?_
    refine g_iand rfl ?_
    intro z172 h173 h174 h175
    have h176 : z172 = 0 := h173.trans (by decide)
    subst h176
    refine g_iaddE (z := 2) (by decide) rfl ?_
    refine g_istore_n (n := 0) (lo' := []) rfl rfl ?_
    refine g_iload_n (n := 0) rfl rfl ?_
    refine g_iload_n (n := 0) rfl rfl ?_
    refine g_iconst rfl ?_
    refine g_iushr rfl ?_
    intro z177 h178 h179 h180
    have h181 : z177 = 0 := h178.trans (by decide)
    subst h181
    refine g_iaddE (z := 2) (by decide) rfl ?_
    refine g_ldcw (n := 267) (x := 252645135) (by decide +kernel) (show decode cJ6_bitCount_0f7a4 29 = .ok (.ldc_w 267, 3) by decide +kernel) ?_
    refine g_iand rfl ?_
    intro z182 h183 h184 h185
    have h186 : z182 = 2 := h183.trans (by decide)
    subst h186
    refine g_istore_n (n := 0) (lo' := []) rfl rfl ?_
    refine g_iload_n (n := 0) rfl rfl ?_
    refine g_iload_n (n := 0) rfl rfl ?_
    refine g_bipush (by decide) rfl ?_
    refine g_iushr rfl ?_
    intro z187 h188 h189 h190
    have h191 : z187 = 0 := h188.trans (by decide)
    subst h191
    refine g_iaddE (z := 2) (by decide) rfl ?_
    refine g_istore_n (n := 0) (lo' := []) rfl rfl ?_
    refine g_iload_n (n := 0) rfl rfl ?_
    refine g_iload_n (n := 0) rfl rfl ?_
    refine g_bipush (by decide) rfl ?_
    refine g_iushr rfl ?_
    intro z192 h193 h194 h195
    have h196 : z192 = 0 := h193.trans (by decide)
    subst h196
    refine g_iaddE (z := 2) (by decide) rfl ?_
    refine g_istore_n (n := 0) (lo' := []) rfl rfl ?_
    refine g_iload_n (n := 0) rfl rfl ?_
    refine g_bipush (by decide) rfl ?_
    refine g_iand rfl ?_
    intro z197 h198 h199 h200
    have h201 : z197 = 2 := h198.trans (by decide)
    subst h201
    refine g_iret rfl rfl ?_
    exact ⟨_, _, rfl, rfl, by decide, by decide, by decide⟩
  · refine g_iload_n (n := 0) rfl rfl ?_
    refine g_iload_n (n := 0) rfl rfl ?_
    refine g_iconst rfl ?_
    refine g_iushr rfl ?_
    intro z202 h203 h204 h205
    have h206 : z202 = 2 := h203.trans (by decide)
    subst h206
    refine g_ldcw (n := 265) (x := 1431655765) (by decide +kernel) (show decode cJ6_bitCount_0f7a4 4 = .ok (.ldc_w 265, 3) by decide +kernel) ?_
    refine g_iand rfl ?_
    intro z207 h208 h209 h210
    have h211 : z207 = 0 := h208.trans (by decide)
    subst h211
    refine g_isubE (z := 4) (by decide) rfl ?_
    refine g_istore_n (n := 0) (lo' := []) rfl rfl ?_
    refine g_iload_n (n := 0) rfl rfl ?_
    refine g_ldcw (n := 266) (x := 858993459) (by decide +kernel) (show decode cJ6_bitCount_0f7a4 11 = .ok (.ldc_w 266, 3) by decide +kernel) ?_
    refine g_iand rfl ?_
    intro z212 h213 h214 h215
    have h216 : z212 = 0 := h213.trans (by decide)
    subst h216
    refine g_iload_n (n := 0) rfl rfl ?_
    refine g_iconst rfl ?_
    refine g_iushr rfl ?_
    intro z217 h218 h219 h220
    have h221 : z217 = 1 := h218.trans (by decide)
    subst h221
    refine g_ldcw (n := 266) (x := 858993459) (by decide +kernel) (show decode cJ6_bitCount_0f7a4 18 = .ok (.ldc_w 266, 3) by decide +kernel) ?_
    refine g_iand rfl ?_
    intro z222 h223 h224 h225
    have h226 : z222 = 1 := h223.trans (by decide)
    subst h226
    refine g_iaddE (z := 1) (by decide) rfl ?_
    refine g_istore_n (n := 0) (lo' := []) rfl rfl ?_
    refine g_iload_n (n := 0) rfl rfl ?_
    refine g_iload_n (n := 0) rfl rfl ?_
    refine g_iconst rfl ?_
    refine g_iushr rfl ?_
    intro z227 h228 h229 h230
    have h231 : z227 = 0 := h228.trans (by decide)
    subst h231
    refine g_iaddE (z := 1) (by decide) rfl ?_
    refine g_ldcw (n := 267) (x := 252645135) (by decide +kernel) (show decode cJ6_bitCount_0f7a4 29 = .ok (.ldc_w 267, 3) by decide +kernel) ?_
    refine g_iand rfl ?_
    intro z232 h233 h234 h235
    have h236 : z232 = 1 := h233.trans (by decide)
    subst h236
    refine g_istore_n (n := 0) (lo' := []) rfl rfl ?_
    refine g_iload_n (n := 0) rfl rfl ?_
    refine g_iload_n (n := 0) rfl rfl ?_
    refine g_bipush (by decide) rfl ?_
    refine g_iushr rfl ?_
    intro z237 h238 h239 h240
    have h241 : z237 = 0 := h238.trans (by decide)
    subst h241
    refine g_iaddE (z := 1) (by decide) rfl ?_
    refine g_istore_n (n := 0) (lo' := []) rfl rfl ?_
    refine g_iload_n (n := 0) rfl rfl ?_
    refine g_iload_n (n := 0) rfl rfl ?_
    refine g_bipush (by decide) rfl ?_
    refine g_iushr rfl ?_
    intro z242 h243 h244 h245
    have h246 : z242 = 0 := h243.trans (by decide)
    subst h246
    refine g_iaddE (z := 1) (by decide) rfl ?_
    refine g_istore_n (n := 0) (lo' := []) rfl rfl ?_
    refine g_iload_n (n := 0) rfl rfl ?_
    refine g_bipush (by decide) rfl ?_
    refine g_iand rfl ?_
    intro z247 h248 h249 h250
    have h251 : z247 = 1 := h248.trans (by decide)
    subst h251
    refine g_iret rfl rfl ?_
    exact ⟨_, _, rfl, rfl, by decide, by decide, by decide⟩
  · refine g_iload_n (n := 0) rfl rfl ?_
    refine g_iload_n (n := 0) rfl rfl ?_
    refine g_iconst rfl ?_
    refine g_iushr rfl ?_
    intro z252 h253 h254 h255
    have h256 : z252 = 2 := h253.trans (by decide)
    subst h256
    refine g_ldcw (n := 265) (x := 1431655765) (by decide +kernel) (show decode cJ6_bitCount_0f7a4 4 = .ok (.ldc_w 265, 3) by decide +kernel) ?_
    refine g_iand rfl ?_
    intro z257 h258 h259 h260
    have h261 : z257 = 0 := h258.trans (by decide)
    subst h261
    refine g_isubE (z := 5) (by decide) rfl ?_
    refine g_istore_n (n := 0) (lo' := []) rfl rfl ?_
    refine g_iload_n (n := 0) rfl rfl ?_
    refine g_ldcw (n := 266) (x := 858993459) (by decide +kernel) (show decode cJ6_bitCount_0f7a4 11 = .ok (.ldc_w 266, 3) by decide +kernel) ?_
    refine g_iand rfl ?_
    intro z262 h263 h264 h265
    have h266 : z262 = 1 := h263.trans (by decide)
    subst h266
    refine g_iload_n (n := 0) rfl rfl ?_
    refine g_iconst rfl ?_
    refine g_iushr rfl ?_
    intro z267 h268 h269 h270
    have h271 : z267 = 1 := h268.trans (by decide)
    subst h271
    refine g_ldcw (n := 266) (x := 858993459) (by decide +kernel) (show decode cJ6_bitCount_0f7a4 18 = .ok (.ldc_w 266, 3) by decide +kernel) ?_
    refine g_iand rfl ?_
    intro z272 h273 h274 h275
    have h276 : z272 = 1 := h273.trans (by decide)
    subst h276
    refine g_iaddE (z := 2) (by decide) rfl ?_
    refine g_istore_n (n := 0) (lo' := []) rfl rfl ?_
    refine g_iload_n (n := 0) rfl rfl ?_
    refine g_iload_n (n := 0) rfl rfl ?_
    refine g_iconst rfl ?_
    refine g_iushr rfl ?_
    intro z277 h278 h279 h280
    have h281 : z277 = 0 := h278.trans (by decide)
    subst h281
    refine g_iaddE (z := 2) (by decide) rfl ?_
    refine g_ldcw (n := 267) (x := 252645135) (by decide +kernel) (show decode cJ6_bitCount_0f7a4 29 = .ok (.ldc_w 267, 3) by decide +kernel) ?_
    refine g_iand rfl ?_
    intro z282 h283 h284 h285
    have h286 : z282 = 2 := h283.trans (by decide)
    subst h286
    refine g_istore_n (n := 0) (lo' := []) rfl rfl ?_
    refine g_iload_n (n := 0) rfl rfl ?_
    refine g_iload_n (n := 0) rfl rfl ?_
    refine g_bipush (by decide) rfl ?_
    refine g_iushr rfl ?_
    intro z287 h288 h289 h290
    have h291 : z287 = 0 := h288.trans (by decide)
    subst h291
    refine g_iaddE (z := 2) (by decide) rfl ?_
    refine g_istore_n (n := 0) (lo' := []) rfl rfl ?_
    refine g_iload_n (n := 0) rfl rfl ?_
    refine g_iload_n (n := 0) rfl rfl ?_
    refine g_bipush (by decide) rfl ?_
    refine g_iushr rfl ?_
    intro z292 h293 h294 h295
    have h296 : z292 = 0 := h293.trans (by decide)
    subst h296
    refine g_iaddE (z := 2) (by decide) rfl ?_
    refine g_istore_n (n := 0) (lo' := []) rfl rfl ?_
    refine g_iload_n (n := 0) rfl rfl ?_
    refine g_bipush (by decide) rfl ?_
    refine g_iand rfl ?_
    intro z297 h298 h299 h300
    have h301 : z297 = 2 := h298.trans (by decide)
    subst h301
    refine g_iret rfl rfl ?_
    exact ⟨_, _, rfl, rfl, by decide, by decide, by decide⟩
  · refine g_iload_n (n := 0) rfl rfl ?_
    refine g_iload_n (n := 0) rfl rfl ?_
    refine g_iconst rfl ?_
    refine g_iushr rfl ?_
    intro z302 h303 h304 h305
    have h306 : z302 = 3 := h303.trans (by decide)
    subst h306
    refine g_ldcw (n := 265) (x := 1431655765) (by decide +kernel) (show decode cJ6_bitCount_0f7a4 4 = .ok (.ldc_w 265, 3) by decide +kernel) ?_
    refine g_iand rfl ?_
    intro z307 h308 h309 h310
    have h311 : z307 = 1 := h308.trans (by decide)
    subst h311
    refine g_isubE (z := 5) (by decide) rfl ?_
    refine g_istore_n (n := 0) (lo' := []) rfl rfl ?_
    refine g_iload_n (n := 0) rfl rfl ?_
    refine g_ldcw (n := 266) (x := 858993459) (by decide +kernel) (show decode cJ6_bitCount_0f7a4 11 = .ok (.ldc_w 266, 3) by decide +kernel) ?_
    refine g_iand rfl ?_
    intro z312 h313 h314 h315
    have h316 : z312 = 1 := h313.trans (by decide)
    subst h316
    refine g_iload_n (n := 0) rfl rfl ?_
    refine g_iconst rfl ?_
    refine g_iushr rfl ?_
    intro z317 h318 h319 h320
    have h321 : z317 = 1 := h318.trans (by decide)
    subst h321
    refine g_ldcw (n := 266) (x := 858993459) (by decide +kernel) (show decode cJ6_bitCount_0f7a4 18 = .ok (.ldc_w 266, 3) by decide +kernel) ?_
    refine g_iand rfl ?_
    intro z322 h323 h324 h325
    have h326 : z322 = 1 := h323.trans (by decide)
    subst h326
    refine g_iaddE (z := 2) (by decide) rfl ?_
    refine g_istore_n (n := 0) (lo' := []) rfl rfl ?_
    refine g_iload_n (n := 0) rfl rfl ?_
    refine g_iload_n (n := 0) rfl rfl ?_
    refine g_iconst rfl ?_
    refine g_iushr rfl ?_
    intro z327 h328 h329 h330
    have h331 : z327 = 0 := h328.trans (by decide)
    subst h331
    refine g_iaddE (z := 2) (by decide) rfl ?_
    refine g_ldcw (n := 267) (x := 252645135) (by decide +kernel) (show decode cJ6_bitCount_0f7a4 29 = .ok (.ldc_w 267, 3) by decide +kernel) ?_
    refine g_iand rfl ?_
    intro z332 h333 h334 h335
    have h336 : z332 = 2 := h333.trans (by decide)
    subst h336
    refine g_istore_n (n := 0) (lo' := []) rfl rfl ?_
    refine g_iload_n (n := 0) rfl rfl ?_
    refine g_iload_n (n := 0) rfl rfl ?_
    refine g_bipush (by decide) rfl ?_
    refine g_iushr rfl ?_
    intro z337 h338 h339 h340
    have h341 : z337 = 0 := h338.trans (by decide)
    subst h341
    refine g_iaddE (z := 2) (by decide) rfl ?_
    refine g_istore_n (n := 0) (lo' := []) rfl rfl ?_
    refine g_iload_n (n := 0) rfl rfl ?_
    refine g_iload_n (n := 0) rfl rfl ?_
    refine g_bipush (by decide) rfl ?_
    refine g_iushr rfl ?_
    intro z342 h343 h344 h345
    have h346 : z342 = 0 := h343.trans (by decide)
    subst h346
    refine g_iaddE (z := 2) (by decide) rfl ?_
    refine g_istore_n (n := 0) (lo' := []) rfl rfl ?_
    refine g_iload_n (n := 0) rfl rfl ?_
    refine g_bipush (by decide) rfl ?_
    refine g_iand rfl ?_
    intro z347 h348 h349 h350
    have h351 : z347 = 2 := h348.trans (by decide)
    subst h351
    refine g_iret rfl rfl ?_
    exact ⟨_, _, rfl, rfl, by decide, by decide, by decide⟩
  · refine g_iload_n (n := 0) rfl rfl ?_
    refine g_iload_n (n := 0) rfl rfl ?_
    refine g_iconst rfl ?_
    refine g_iushr rfl ?_
    intro z352 h353 h354 h355
    have h356 : z352 = 3 := h353.trans (by decide)
    subst h356
    refine g_ldcw (n := 265) (x := 1431655765) (by decide +kernel) (show decode cJ6_bitCount_0f7a4 4 = .ok (.ldc_w 265, 3) by decide +kernel) ?_
    refine g_iand rfl ?_
    intro z357 h358 h359 h360
    have h361 : z357 = 1 := h358.trans (by decide)
    subst h361
    refine g_isubE (z := 6) (by decide) rfl ?_
    refine g_istore_n (n := 0) (lo' := []) rfl rfl ?_
    refine g_iload_n (n := 0) rfl rfl ?_
    refine g_ldcw (n := 266) (x := 858993459) (by decide +kernel) (show decode cJ6_bitCount_0f7a4 11 = .ok (.ldc_w 266, 3) by decide +kernel) ?_
    refine g_iand rfl ?_
    intro z362 h363 h364 h365
    have h366 : z362 = 2 := h363.trans (by decide)
    subst h366
    refine g_iload_n (n := 0) rfl rfl ?_
    refine g_iconst rfl ?_
    refine g_iushr rfl ?_
    intro z367 h368 h369 h370
    have h371 : z367 = 1 := h368.trans (by decide)
    subst h371
    refine g_ldcw (n := 266) (x := 858993459) (by decide +kernel) (show decode cJ6_bitCount_0f7a4 18 = .ok (.ldc_w 266, 3) by decide +kernel) ?_
    refine g_iand rfl ?_
    intro z372 h373 h374 h375
    have h376 : z372 = 1 := h373.trans (by decide)
    subst h376
    refine g_iaddE (z := 3) (by decide) rfl ?_
    refine g_istore_n (n := 0) (lo' := []) rfl rfl ?_
    refine g_iload_n (n := 0) rfl rfl ?_
    refine g_iload_n (n := 0) rfl rfl ?_
    refine g_iconst rfl ?_
    refine g_iushr rfl ?_
    intro z377 h378 h379 h380
    have h381 : z377 = 0 := h378.trans (by decide)
    subst h381
    refine g_iaddE (z := 3) (by decide) rfl ?_
    refine g_ldcw (n := 267) (x := 252645135) (by decide +kernel) (show decode cJ6_bitCount_0f7a4 29 = .ok (.ldc_w 267, 3) by decide +kernel) ?_
    refine g_iand rfl ?_
    intro z382 h383 h384 h385
    have h386 : z382 = 3 := h383.trans (by decide)
    subst h386
    refine g_istore_n (n := 0) (lo' := []) rfl rfl ?_
    refine g_iload_n (n := 0) rfl rfl ?_
    refine g_iload_n (n := 0) rfl rfl ?_
    refine g_bipush (by decide) rfl ?_
    refine g_iushr rfl ?_
    intro z387 h388 h389 h390
    have h391 : z387 = 0 := h388.trans (by decide)
    subst h391
    refine g_iaddE (z := 3) (by decide) rfl ?_
    refine g_istore_n (n := 0) (lo' := []) rfl rfl ?_
    refine g_iload_n (n := 0) rfl rfl ?_
    refine g_iload_n (n := 0) rfl rfl ?_
    refine g_bipush (by decide) rfl ?_
    refine g_iushr rfl ?_
    intro z392 h393 h394 h395
    have h396 : z392 = 0 := h393.trans (by decide)
    subst h396
    refine g_iaddE (z := 3) (by decide) rfl ?_
    refine g_istore_n (n := 0) (lo' := []) rfl rfl ?_
    refine g_iload_n (n := 0) rfl rfl ?_
    refine g_bipush (by decide) rfl ?_
    refine g_iand rfl ?_
    intro z397 h398 h399 h400
    have h401 : z397 = 3 := h398.trans (by decide)
    subst h401
    refine g_iret rfl rfl ?_
    exact ⟨_, _, rfl, rfl, by decide, by decide, by decide⟩
  · refine g_iload_n (n := 0) rfl rfl ?_
    refine g_iload_n (n := 0) rfl rfl ?_
    refine g_iconst rfl ?_
    refine g_iushr rfl ?_
    intro z402 h403 h404 h405
    have h406 : z402 = 4 := h403.trans (by decide)
    subst h406
    refine g_ldcw (n := 265) (x := 1431655765) (by decide +kernel) (show decode cJ6_bitCount_0f7a4 4 = .ok (.ldc_w 265, 3) by decide +kernel) ?_
    refine g_iand rfl ?_
    intro z407 h408 h409 h410
    have h411 : z407 = 4 := h408.trans (by decide)
    subst h411
    refine g_isubE (z := 4) (by decide) rfl ?_
    refine g_istore_n (n := 0) (lo' := []) rfl rfl ?_
    refine g_iload_n (n := 0) rfl rfl ?_
    refine g_ldcw (n := 266) (x := 858993459) (by decide +kernel) (show decode cJ6_bitCount_0f7a4 11 = .ok (.ldc_w 266, 3) by decide +kernel) ?_
    refine g_iand rfl ?_
    intro z412 h413 h414 h415
    have h416 : z412 = 0 := h413.trans (by decide)
    subst h416
    refine g_iload_n (n := 0) rfl rfl ?_
    refine g_iconst rfl ?_
    refine g_iushr rfl ?_
    intro z417 h418 h419 h420
    have h421 : z417 = 1 := h418.trans (by decide)
    subst h421
    refine g_ldcw (n := 266) (x := 858993459) (by decide +kernel) (show decode cJ6_bitCount_0f7a4 18 = .ok (.ldc_w 266, 3) by decide +kernel) ?_
    refine g_iand rfl ?_
    intro z422 h423 h424 h425
    have h426 : z422 = 1 := h423.trans (by decide)
    subst h426
    refine g_iaddE (z := 1) (by decide) rfl ?_
    refine g_istore_n (n := 0) (lo' := []) rfl rfl ?_
    refine g_iload_n (n := 0) rfl rfl ?_
    refine g_iload_n (n := 0) rfl rfl ?_
    refine g_iconst rfl ?_
    refine g_iushr rfl ?_
    intro z427 h428 h429 h430
    have h431 : z427 = 0 := h428.trans (by decide)
    subst h431
    refine g_iaddE (z := 1) (by decide) rfl ?_
    refine g_ldcw (n := 267) (x := 252645135) (by decide +kernel) (show decode cJ6_bitCount_0f7a4 29 = .ok (.ldc_w 267, 3) by decide +kernel) ?_
    refine g_iand rfl ?_
    intro z432 h433 h434 h435
    have h436 : z432 = 1 := h433.trans (by decide)
    subst h436
    refine g_istore_n (n := 0) (lo' := []) rfl rfl ?_
    refine g_iload_n (n := 0) rfl rfl ?_
    refine g_iload_n (n := 0) rfl rfl ?_
    refine g_bipush (by decide) rfl ?_
    refine g_iushr rfl ?_
    intro z437 h438 h439 h440
    have h441 : z437 = 0 := h438.trans (by decide)
    subst h441
    refine g_iaddE (z := 1) (by decide) rfl ?_
    refine g_istore_n (n := 0) (lo' := []) rfl rfl ?_
    refine g_iload_n (n := 0) rfl rfl ?_
    refine g_iload_n (n := 0) rfl rfl ?_
    refine g_bipush (by decide) rfl ?_
    refine g_iushr rfl ?_
    intro z442 h443 h444 h445
    have h446 : z442 = 0 := h443.trans (by decide)
    subst h446
    refine g_iaddE (z := 1) (by decide) rfl ?_
    refine g_istore_n (n := 0) (lo' := []) rfl rfl ?_
    refine g_iload_n (n := 0) rfl rfl ?_
    refine g_bipush (by decide) rfl ?_
    refine g_iand rfl ?_
    intro z447 h448 h449 h450
    have h451 : z447 = 1 := h448.trans (by decide)
    subst h451
    refine g_iret rfl rfl ?_
    exact ⟨_, _, rfl, rfl, by decide, by decide, by decide⟩
  · refine g_iload_n (n := 0) rfl rfl ?_
    refine g_iload_n (n := 0) rfl rfl ?_
    refine g_iconst rfl ?_
    refine g_iushr rfl ?_
    intro z452 h453 h454 h455
    have h456 : z452 = 4 := h453.trans (by decide)
    subst h456
    refine g_ldcw (n := 265) (x := 1431655765) (by decide +kernel) (show decode cJ6_bitCount_0f7a4 4 = .ok (.ldc_w 265, 3) by decide +kernel) ?_
    refine g_iand rfl ?_
    intro z457 h458 h459 h460
    have h461 : z457 = 4 := h458.trans (by decide)
    subst h461
    refine g_isubE (z := 5) (by decide) rfl ?_
    refine g_istore_n (n := 0) (lo' := []) rfl rfl ?_
    refine g_iload_n (n := 0) rfl rfl ?_
    refine g_ldcw (n := 266) (x := 858993459) (by decide +kernel) (show decode cJ6_bitCount_0f7a4 11 = .ok (.ldc_w 266, 3) by decide +kernel) ?_
    refine g_iand rfl ?_
    intro z462 h463 h464 h465
    have h466 : z462 = 1 := h463.trans (by decide)
    subst h466
    refine g_iload_n (n := 0) rfl rfl ?_
    refine g_iconst rfl ?_
    refine g_iushr rfl ?_
    intro z467 h468 h469 h470
    have h471 : z467 = 1 := h468.trans (by decide)
    subst h471
    refine g_ldcw (n := 266) (x := 858993459) (by decide +kernel) (show decode cJ6_bitCount_0f7a4 18 = .ok (.ldc_w 266, 3) by decide +kernel) ?_
    refine g_iand rfl ?_
    intro z472 h473 h474 h475
    have h476 : z472 = 1 := h473.trans (by decide)
    subst h476
    refine g_iaddE (z := 2) (by decide) rfl ?_
    refine g_istore_n (n := 0) (lo' := []) rfl rfl ?_
    refine g_iload_n (n := 0) rfl rfl ?_
    refine g_iload_n (n := 0) rfl rfl ?_
    refine g_iconst rfl ?_
    refine g_iushr rfl ?_
    intro z477 h478 h479 h480
    have h481 : z477 = 0 := h478.trans (by decide)
    subst h481
    refine g_iaddE (z := 2) (by decide) rfl ?_
    refine g_ldcw (n := 267) (x := 252645135) (by decide +kernel) (show decode cJ6_bitCount_0f7a4 29 = .ok (.ldc_w 267, 3) by decide +kernel) ?_
    refine g_iand rfl ?_
    intro z482 h483 h484 h485
    have h486 : z482 = 2 := h483.trans (by decide)
    subst h486
    refine g_istore_n (n := 0) (lo' := []) rfl rfl ?_
    refine g_iload_n (n := 0) rfl rfl ?_
    refine g_iload_n (n := 0) rfl rfl ?_
    refine g_bipush (by decide) rfl ?_
    refine g_iushr rfl ?_
    intro z487 h488 h489 h490
    have h491 : z487 = 0 := h488.trans (by decide)
    subst h491
    refine g_iaddE (z := 2) (by decide) rfl ?_
    refine g_istore_n (n := 0) (lo' := []) rfl rfl ?_
    refine g_iload_n (n := 0) rfl rfl ?_
    refine g_iload_n (n := 0) rfl rfl ?_
    refine g_bipush (by decide) rfl ?_
    refine g_iushr rfl ?_
    intro z492 h493 h494 h495
    have h496 : z492 = 0 := h493.trans (by decide)
    subst h496
    refine g_iaddE (z := 2) (by decide) rfl ?_
    refine g_istore_n (n := 0) (lo' := []) rfl rfl ?_
    refine g_iload_n (n := 0) rfl rfl ?_
    refine g_bipush (by decide) rfl ?_
    refine g_iand rfl ?_
    intro z497 h498 h499 h500
    have h501 : z497 = 2 := h498.trans (by decide)
    subst h501
    refine g_iret rfl rfl ?_
    exact ⟨_, _, rfl, rfl, by decide, by decide, by decide⟩
  · refine g_iload_n (n := 0) rfl rfl ?_
    refine g_iload_n (n := 0) rfl rfl ?_
    refine g_iconst rfl ?_
    refine g_iushr rfl ?_
    intro z502 h503 h504 h505
    have h506 : z502 = 5 := h503.trans (by decide)
    subst h506
    refine g_ldcw (n := 265) (x := 1431655765) (by decide +kernel) (show decode cJ6_bitCount_0f7a4 4 = .ok (.ldc_w 265, 3) by decide +kernel) ?_
    refine g_iand rfl ?_
    intro z507 h508 h509 h510
    have h511 : z507 = 5 := h508.trans (by decide)
    subst h511
    refine g_isubE (z := 5) (by decide) rfl ?_
    refine g_istore_n (n := 0) (lo' := []) rfl rfl ?_
    refine g_iload_n (n := 0) rfl rfl ?_
    refine g_ldcw (n := 266) (x := 858993459) (by decide +kernel) (show decode cJ6_bitCount_0f7a4 11 = .ok (.ldc_w 266, 3) by decide +kernel) ?_
    refine g_iand rfl ?_
    intro z512 h513 h514 h515
    have h516 : z512 = 1 := h513.trans (by decide)
    subst h516
    refine g_iload_n (n := 0) rfl rfl ?_
    refine g_iconst rfl ?_
    refine g_iushr rfl ?_
    intro z517 h518 h519 h520
    have h521 : z517 = 1 := h518.trans (by decide)
    subst h521
    refine g_ldcw (n := 266) (x := 858993459) (by decide +kernel) (show decode cJ6_bitCount_0f7a4 18 = .ok (.ldc_w 266, 3) by decide +kernel) ?_
    refine g_iand rfl ?_
    intro z522 h523 h524 h525
    have h526 : z522 = 1 := h523.trans (by decide)
    subst h526
    refine g_iaddE (z := 2) (by decide) rfl ?_
    refine g_istore_n (n := 0) (lo' := []) rfl rfl ?_
    refine g_iload_n (n := 0) rfl rfl ?_
    refine g_iload_n (n := 0) rfl rfl ?_
    refine g_iconst rfl ?_
    refine g_iushr rfl ?_
    intro z527 h528 h529 h530
    have h531 : z527 = 0 := h528.trans (by decide)
    subst h531
    refine g_iaddE (z := 2) (by decide) rfl ?_
    refine g_ldcw (n := 267) (x := 252645135) (by decide +kernel) (show decode cJ6_bitCount_0f7a4 29 = .ok (.ldc_w 267, 3) by decide +kernel) ?_
    refine g_iand rfl ?_
    intro z532 h533 h534 h535
    have h536 : z532 = 2 := h533.trans (by decide)
    subst h536
    refine g_istore_n (n := 0) (lo' := []) rfl rfl ?_
    refine g_iload_n (n := 0) rfl rfl ?_
    refine g_iload_n (n := 0) rfl rfl ?_
    refine g_bipush (by decide) rfl ?_
    refine g_iushr rfl ?_
    intro z537 h538 h539 h540
    have h541 : z537 = 0 := h538.trans (by decide)
    subst h541
    refine g_iaddE (z := 2) (by decide) rfl ?_
    refine g_istore_n (n := 0) (lo' := []) rfl rfl ?_
    refine g_iload_n (n := 0) rfl rfl ?_
    refine g_iload_n (n := 0) rfl rfl ?_
    refine g_bipush (by decide) rfl ?_
    refine g_iushr rfl ?_
    intro z542 h543 h544 h545
    have h546 : z542 = 0 := h543.trans (by decide)
    subst h546
    refine g_iaddE (z := 2) (by decide) rfl ?_
    refine g_istore_n (n := 0) (lo' := []) rfl rfl ?_
    refine g_iload_n (n := 0) rfl rfl ?_
    refine g_bipush (by decide) rfl ?_
    refine g_iand rfl ?_
    intro z547 h548 h549 h550
    have h551 : z547 = 2 := h548.trans (by decide)
    subst h551
    refine g_iret rfl rfl ?_
    exact ⟨_, _, rfl, rfl, by decide, by decide, by decide⟩
  · refine g_iload_n (n := 0) rfl rfl ?_
    refine g_iload_n (n := 0) rfl rfl ?_
    refine g_iconst rfl ?_
    refine g_iushr rfl ?_
    intro z552 h553 h554 h555
    have h556 : z552 = 5 := h553.trans (by decide)
    subst h556
    refine g_ldcw (n := 265) (x := 1431655765) (by decide +kernel) (show decode cJ6_bitCount_0f7a4 4 = .ok (.ldc_w 265, 3) by decide +kernel) ?_
    refine g_iand rfl ?_
    intro z557 h558 h559 h560
    have h561 : z557 = 5 := h558.trans (by decide)
    subst h561
    refine g_isubE (z := 6) (by decide) rfl ?_
    refine g_istore_n (n := 0) (lo' := []) rfl rfl ?_
    refine g_iload_n (n := 0) rfl rfl ?_
    refine g_ldcw (n := 266) (x := 858993459) (by decide +kernel) (show decode cJ6_bitCount_0f7a4 11 = .ok (.ldc_w 266, 3) by decide +kernel) ?_
    refine g_iand rfl ?_
    intro z562 h563 h564 h565
    have h566 : z562 = 2 := h563.trans (by decide)
    subst h566
    refine g_iload_n (n := 0) rfl rfl ?_
    refine g_iconst rfl ?_
    refine g_iushr rfl ?_
    intro z567 h568 h569 h570
    have h571 : z567 = 1 := h568.trans (by decide)
    subst h571
    refine g_ldcw (n := 266) (x := 858993459) (by decide +kernel) (show decode cJ6_bitCount_0f7a4 18 = .ok (.ldc_w 266, 3) by decide +kernel) ?_
    refine g_iand rfl ?_
    intro z572 h573 h574 h575
    have h576 : z572 = 1 := h573.trans (by decide)
    subst h576
    refine g_iaddE (z := 3) (by decide) rfl ?_
    refine g_istore_n (n := 0) (lo' := []) rfl rfl ?_
    refine g_iload_n (n := 0) rfl rfl ?_
    refine g_iload_n (n := 0) rfl rfl ?_
    refine g_iconst rfl ?_
    refine g_iushr rfl ?_
    intro z577 h578 h579 h580
    have h581 : z577 = 0 := h578.trans (by decide)
    subst h581
    refine g_iaddE (z := 3) (by decide) rfl ?_
    refine g_ldcw (n := 267) (x := 252645135) (by decide +kernel) (show decode cJ6_bitCount_0f7a4 29 = .ok (.ldc_w 267, 3) by decide +kernel) ?_
    refine g_iand rfl ?_
    intro z582 h583 h584 h585
    have h586 : z582 = 3 := h583.trans (by decide)
    subst h586
    refine g_istore_n (n := 0) (lo' := []) rfl rfl ?_
    refine g_iload_n (n := 0) rfl rfl ?_
    refine g_iload_n (n := 0) rfl rfl ?_
    refine g_bipush (by decide) rfl ?_
    refine g_iushr rfl ?_
    intro z587 h588 h589 h590
    have h591 : z587 = 0 := h588.trans (by decide)
    subst h591
    refine g_iaddE (z := 3) (by decide) rfl ?_
    refine g_istore_n (n := 0) (lo' := []) rfl rfl ?_
    refine g_iload_n (n := 0) rfl rfl ?_
    refine g_iload_n (n := 0) rfl rfl ?_
    refine g_bipush (by decide) rfl ?_
    refine g_iushr rfl ?_
    intro z592 h593 h594 h595
    have h596 : z592 = 0 := h593.trans (by decide)
    subst h596
    refine g_iaddE (z := 3) (by decide) rfl ?_
    refine g_istore_n (n := 0) (lo' := []) rfl rfl ?_
    refine g_iload_n (n := 0) rfl rfl ?_
    refine g_bipush (by decide) rfl ?_
    refine g_iand rfl ?_
    intro z597 h598 h599 h600
    have h601 : z597 = 3 := h598.trans (by decide)
    subst h601
    refine g_iret rfl rfl ?_
    exact ⟨_, _, rfl, rfl, by decide, by decide, by decide⟩
  · refine g_iload_n (n := 0) rfl rfl ?_
    refine g_iload_n (n := 0) rfl rfl ?_
    refine g_iconst rfl ?_
    refine g_iushr rfl ?_
    intro z602 h603 h604 h605
    have h606 : z602 = 6 := h603.trans (by decide)
    subst h606
    refine g_ldcw (n := 265) (x := 1431655765) (by decide +kernel) (show decode cJ6_bitCount_0f7a4 4 = .ok (.ldc_w 265, 3) by decide +kernel) ?_
    refine g_iand rfl ?_
    intro z607 h608 h609 h610
    have h611 : z607 = 4 := h608.trans (by decide)
    subst h611
    refine g_isubE (z := 8) (by decide) rfl ?_
    refine g_istore_n (n := 0) (lo' := []) rfl rfl ?_
    refine g_iload_n (n := 0) rfl rfl ?_
    refine g_ldcw (n := 266) (x := 858993459) (by decide +kernel) (show decode cJ6_bitCount_0f7a4 11 = .ok (.ldc_w 266, 3) by decide +kernel) ?_
    refine g_iand rfl ?_
    intro z612 h613 h614 h615
    have h616 : z612 = 0 := h613.trans (by decide)
    subst h616
    refine g_iload_n (n := 0) rfl rfl ?_
    refine g_iconst rfl ?_
    refine g_iushr rfl ?_
    intro z617 h618 h619 h620
    have h621 : z617 = 2 := h618.trans (by decide)
    subst h621
    refine g_ldcw (n := 266) (x := 858993459) (by decide +kernel) (show decode cJ6_bitCount_0f7a4 18 = .ok (.ldc_w 266, 3) by decide +kernel) ?_
    refine g_iand rfl ?_
    intro z622 h623 h624 h625
    have h626 : z622 = 2 := h623.trans (by decide)
    subst h626
    refine g_iaddE (z := 2) (by decide) rfl ?_
    refine g_istore_n (n := 0) (lo' := []) rfl rfl ?_
    refine g_iload_n (n := 0) rfl rfl ?_
    refine g_iload_n (n := 0) rfl rfl ?_
    refine g_iconst rfl ?_
    refine g_iushr rfl ?_
    intro z627 h628 h629 h630
    have h631 : z627 = 0 := h628.trans (by decide)
    subst h631
    refine g_iaddE (z := 2) (by decide) rfl ?_
    refine g_ldcw (n := 267) (x := 252645135) (by decide +kernel) (show decode cJ6_bitCount_0f7a4 29 = .ok (.ldc_w 267, 3) by decide +kernel) ?_
    refine g_iand rfl ?_
    intro z632 h633 h634 h635
    have h636 : z632 = 2 := h633.trans (by decide)
    subst h636
    refine g_istore_n (n := 0) (lo' := []) rfl rfl ?_
    refine g_iload_n (n := 0) rfl rfl ?_
    refine g_iload_n (n := 0) rfl rfl ?_
    refine g_bipush (by decide) rfl ?_
    refine g_iushr rfl ?_
    intro z637 h638 h639 h640
    have h641 : z637 = 0 := h638.trans (by decide)
    subst h641
    refine g_iaddE (z := 2) (by decide) rfl ?_
    refine g_istore_n (n := 0) (lo' := []) rfl rfl ?_
    refine g_iload_n (n := 0) rfl rfl ?_
    refine g_iload_n (n := 0) rfl rfl ?_
    refine g_bipush (by decide) rfl ?_
    refine g_iushr rfl ?_
    intro z642 h643 h644 h645
    have h646 : z642 = 0 := h643.trans (by decide)
    subst h646
    refine g_iaddE (z := 2) (by decide) rfl ?_
    refine g_istore_n (n := 0) (lo' := []) rfl rfl ?_
    refine g_iload_n (n := 0) rfl rfl ?_
    refine g_bipush (by decide) rfl ?_
    refine g_iand rfl ?_
    intro z647 h648 h649 h650
    have h651 : z647 = 2 := h648.trans (by decide)
    subst h651
    refine g_iret rfl rfl ?_
    exact ⟨_, _, rfl, rfl, by decide, by decide, by decide⟩
  · refine g_iload_n (n := 0) rfl rfl ?_
    refine g_iload_n (n := 0) rfl rfl ?_
    refine g_iconst rfl ?_
    refine g_iushr rfl ?_
    intro z652 h653 h654 h655
    have h656 : z652 = 6 := h653.trans (by decide)
    subst h656
    refine g_ldcw (n := 265) (x := 1431655765) (by decide +kernel) (show decode cJ6_bitCount_0f7a4 4 = .ok (.ldc_w 265, 3) by decide +kernel) ?_
    refine g_iand rfl ?_
    intro z657 h658 h659 h660
    have h661 : z657 = 4 := h658.trans (by decide)
    subst h661
    refine g_isubE (z := 9) (by decide) rfl ?_
    refine g_istore_n (n := 0) (lo' := []) rfl rfl ?_
    refine g_iload_n (n := 0) rfl rfl ?_
    refine g_ldcw (n := 266) (x := 858993459) (by decide +kernel) (show decode cJ6_bitCount_0f7a4 11 = .ok (.ldc_w 266, 3) by decide +kernel) ?_
    refine g_iand rfl ?_
    intro z662 h663 h664 h665
    have h666 : z662 = 1 := h663.trans (by decide)
    subst h666
    refine g_iload_n (n := 0) rfl rfl ?_
    refine g_iconst rfl ?_
    refine g_iushr rfl ?_
    intro z667 h668 h669 h670
    have h671 : z667 = 2 := h668.trans (by decide)
    subst h671
    refine g_ldcw (n := 266) (x := 858993459) (by decide +kernel) (show decode cJ6_bitCount_0f7a4 18 = .ok (.ldc_w 266, 3) by decide +kernel) ?_
    refine g_iand rfl ?_
    intro z672 h673 h674 h675
    have h676 : z672 = 2 := h673.trans (by decide)
    subst h676
    refine g_iaddE (z := 3) (by decide) rfl ?_
    refine g_istore_n (n := 0) (lo' := []) rfl rfl ?_
    refine g_iload_n (n := 0) rfl rfl ?_
    refine g_iload_n (n := 0) rfl rfl ?_
    refine g_iconst rfl ?_
    refine g_iushr rfl ?_
    intro z677 h678 h679 h680
    have h681 : z677 = 0 := h678.trans (by decide)
    subst h681
    refine g_iaddE (z := 3) (by decide) rfl ?_
    refine g_ldcw (n := 267) (x := 252645135) (by decide +kernel) (show decode cJ6_bitCount_0f7a4 29 = .ok (.ldc_w 267, 3) by decide +kernel) ?_
    refine g_iand rfl ?_
    intro z682 h683 h684 h685
    have h686 : z682 = 3 := h683.trans (by decide)
    subst h686
    refine g_istore_n (n := 0) (lo' := []) rfl rfl ?_
    refine g_iload_n (n := 0) rfl rfl ?_
    refine g_iload_n (n := 0) rfl rfl ?_
    refine g_bipush (by decide) rfl ?_
    refine g_iushr rfl ?_
    intro z687 h688 h689 h690
    have h691 : z687 = 0 := h688.trans (by decide)
    subst h691
    refine g_iaddE (z := 3) (by decide) rfl ?_
    refine g_istore_n (n := 0) (lo' := []) rfl rfl ?_
    refine g_iload_n (n := 0) rfl rfl ?_
    refine g_iload_n (n := 0) rfl rfl ?_
    refine g_bipush (by decide) rfl ?_
    refine g_iushr rfl ?_
    intro z692 h693 h694 h695
    have h696 : z692 = 0 := h693.trans (by decide)
    subst h696
    refine g_iaddE (z := 3) (by decide) rfl ?_
    refine g_istore_n (n := 0) (lo' := []) rfl rfl ?_
    refine g_iload_n (n := 0) rfl rfl ?_
    refine g_bipush (by decide) rfl ?_
    refine g_iand rfl ?_
    intro z697 h698 h699 h700
    have h701 : z697 = 3 := h698.trans (by decide)
    subst h701
    refine g_iret rfl rfl ?_
    exact ⟨_, _, rfl, rfl, by decide, by decide, by decide⟩
  · refine g_iload_n (n := 0) rfl rfl ?_
    refine g_iload_n (n := 0) rfl rfl ?_
    refine g_iconst rfl ?_
    refine g_iushr rfl ?_
    intro z702 h703 h704 h705
    have h706 : z702 = 7 := h703.trans (by decide)
    subst h706
    refine g_ldcw (n := 265) (x := 1431655765) (by decide +kernel) (show decode cJ6_bitCount_0f7a4 4 = .ok (.ldc_w 265, 3) by decide +kernel) ?_
    refine g_iand rfl ?_
    intro z707 h708 h709 h710
    have h711 : z707 = 5 := h708.trans (by decide)
    subst h711
    refine g_isubE (z := 9) (by decide) rfl ?_
    refine g_istore_n (n := 0) (lo' := []) rfl rfl ?_
    refine g_iload_n (n := 0) rfl rfl ?_
    refine g_ldcw (n := 266) (x := 858993459) (by decide +kernel) (show decode cJ6_bitCount_0f7a4 11 = .ok (.ldc_w 266, 3) by decide +kernel) ?_
    refine g_iand rfl ?_
    intro z712 h713 h714 h715
    have h716 : z712 = 1 := h713.trans (by decide)
    subst h716
    refine g_iload_n (n := 0) rfl rfl ?_
    refine g_iconst rfl ?_
    refine g_iushr rfl ?_
    intro z717 h718 h719 h720
    have h721 : z717 = 2 := h718.trans (by decide)
    subst h721
    refine g_ldcw (n := 266) (x := 858993459) (by decide +kernel) (show decode cJ6_bitCount_0f7a4 18 = .ok (.ldc_w 266, 3) by decide +kernel) ?_
    refine g_iand rfl ?_
    intro z722 h723 h724 h725
    have h726 : z722 = 2 := h723.trans (by decide)
    subst h726
    refine g_iaddE (z := 3) (by decide) rfl ?_
    refine g_istore_n (n := 0) (lo' := []) rfl rfl ?_
    refine g_iload_n (n := 0) rfl rfl ?_
    refine g_iload_n (n := 0) rfl rfl ?_
    refine g_iconst rfl ?_
    refine g_iushr rfl ?_
    intro z727 h728 h729 h730
    have h731 : z727 = 0 := h728.trans (by decide)
    subst h731
    refine g_iaddE (z := 3) (by decide) rfl ?_
    refine g_ldcw (n := 267) (x := 252645135) (by decide +kernel) (show decode cJ6_bitCount_0f7a4 29 = .ok (.ldc_w 267, 3) by decide +kernel) ?_
    refine g_iand rfl ?_
    intro z732 h733 h734 h735
    have h736 : z732 = 3 := h733.trans (by decide)
    subst h736
    refine g_istore_n (n := 0) (lo' := []) rfl rfl ?_
    refine g_iload_n (n := 0) rfl rfl ?_
    refine g_iload_n (n := 0) rfl rfl ?_
    refine g_bipush (by decide) rfl ?_
    refine g_iushr rfl ?_
    intro z737 h738 h739 h740
    have h741 : z737 = 0 := h738.trans (by decide)
    subst h741
    refine g_iaddE (z := 3) (by decide) rfl ?_
    refine g_istore_n (n := 0) (lo' := []) rfl rfl ?_
    refine g_iload_n (n := 0) rfl rfl ?_
    refine g_iload_n (n := 0) rfl rfl ?_
    refine g_bipush (by decide) rfl ?_
    refine g_iushr rfl ?_
    intro z742 h743 h744 h745
    have h746 : z742 = 0 := h743.trans (by decide)
    subst h746
    refine g_iaddE (z := 3) (by decide) rfl ?_
    refine g_istore_n (n := 0) (lo' := []) rfl rfl ?_
    refine g_iload_n (n := 0) rfl rfl ?_
    refine g_bipush (by decide) rfl ?_
    refine g_iand rfl ?_
    intro z747 h748 h749 h750
    have h751 : z747 = 3 := h748.trans (by decide)
    subst h751
    refine g_iret rfl rfl ?_
    exact ⟨_, _, rfl, rfl, by decide, by decide, by decide⟩
  · refine g_iload_n (n := 0) rfl rfl ?_
    refine g_iload_n (n := 0) rfl rfl ?_
    refine g_iconst rfl ?_
    refine g_iushr rfl ?_
    intro z752 h753 h754 h755
    have h756 : z752 = 7 := h753.trans (by decide)
    subst h756
    refine g_ldcw (n := 265) (x := 1431655765) (by decide +kernel) (show decode cJ6_bitCount_0f7a4 4 = .ok (.ldc_w 265, 3) by decide +kernel) ?_
    refine g_iand rfl ?_
    intro z757 h758 h759 h760
    have h761 : z757 = 5 := h758.trans (by decide)
    subst h761
    refine g_isubE (z := 10) (by decide) rfl ?_
    refine g_istore_n (n := 0) (lo' := []) rfl rfl ?_
    refine g_iload_n (n := 0) rfl rfl ?_
    refine g_ldcw (n := 266) (x := 858993459) (by decide +kernel) (show decode cJ6_bitCount_0f7a4 11 = .ok (.ldc_w 266, 3) by decide +kernel) ?_
    refine g_iand rfl ?_
    intro z762 h763 h764 h765
    have h766 : z762 = 2 := h763.trans (by decide)
    subst h766
    refine g_iload_n (n := 0) rfl rfl ?_
    refine g_iconst rfl ?_
    refine g_iushr rfl ?_
    intro z767 h768 h769 h770
    have h771 : z767 = 2 := h768.trans (by decide)
    subst h771
    refine g_ldcw (n := 266) (x := 858993459) (by decide +kernel) (show decode cJ6_bitCount_0f7a4 18 = .ok (.ldc_w 266, 3) by decide +kernel) ?_
    refine g_iand rfl ?_
    intro z772 h773 h774 h775
    have h776 : z772 = 2 := h773.trans (by decide)
    subst h776
    refine g_iaddE (z := 4) (by decide) rfl ?_
    refine g_istore_n (n := 0) (lo' := []) rfl rfl ?_
    refine g_iload_n (n := 0) rfl rfl ?_
    refine g_iload_n (n := 0) rfl rfl ?_
    refine g_iconst rfl ?_
    refine g_iushr rfl ?_
    intro z777 h778 h779 h780
    have h781 : z777 = 0 := h778.trans (by decide)
    subst h781
    refine g_iaddE (z := 4) (by decide) rfl ?_
    refine g_ldcw (n := 267) (x := 252645135) (by decide +kernel) (show decode cJ6_bitCount_0f7a4 29 = .ok (.ldc_w 267, 3) by decide +kernel) ?_
    refine g_iand rfl ?_
    intro z782 h783 h784 h785
    have h786 : z782 = 4 := h783.trans (by decide)
    subst h786
    refine g_istore_n (n := 0) (lo' := []) rfl rfl ?_
    refine g_iload_n (n := 0) rfl rfl ?_
    refine g_iload_n (n := 0) rfl rfl ?_
    refine g_bipush (by decide) rfl ?_
    refine g_iushr rfl ?_
    intro z787 h788 h789 h790
    have h791 : z787 = 0 := h788.trans (by decide)
    subst h791
    refine g_iaddE (z := 4) (by decide) rfl ?_
    refine g_istore_n (n := 0) (lo' := []) rfl rfl ?_
    refine g_iload_n (n := 0) rfl rfl ?_
    refine g_iload_n (n := 0) rfl rfl ?_
    refine g_bipush (by decide) rfl ?_
    refine g_iushr rfl ?_
    intro z792 h793 h794 h795
    have h796 : z792 = 0 := h793.trans (by decide)
    subst h796
    refine g_iaddE (z := 4) (by decide) rfl ?_
    refine g_istore_n (n := 0) (lo' := []) rfl rfl ?_
    refine g_iload_n (n := 0) rfl rfl ?_
    refine g_bipush (by decide) rfl ?_
    refine g_iand rfl ?_
    intro z797 h798 h799 h800
    have h801 : z797 = 4 := h798.trans (by decide)
    subst h801
    refine g_iret rfl rfl ?_
    exact ⟨_, _, rfl, rfl, by decide, by decide, by decide⟩
  · refine g_iload_n (n := 0) rfl rfl ?_
    refine g_iload_n (n := 0) rfl rfl ?_
    refine g_iconst rfl ?_
    refine g_iushr rfl ?_
    intro z802 h803 h804 h805
    have h806 : z802 = 8 := h803.trans (by decide)
    subst h806
    refine g_ldcw (n := 265) (x := 1431655765) (by decide +kernel) (show decode cJ6_bitCount_0f7a4 4 = .ok (.ldc_w 265, 3) by decide +kernel) ?_
    refine g_iand rfl ?_
    intro z807 h808 h809 h810
    have h811 : z807 = 0 := h808.trans (by decide)
    subst h811
    refine g_isubE (z := 16) (by decide) rfl ?_
    refine g_istore_n (n := 0) (lo' := []) rfl rfl ?_
    refine g_iload_n (n := 0) rfl rfl ?_
    refine g_ldcw (n := 266) (x := 858993459) (by decide +kernel) (show decode cJ6_bitCount_0f7a4 11 = .ok (.ldc_w 266, 3) by decide +kernel) ?_
    refine g_iand rfl ?_
    intro z812 h813 h814 h815
    have h816 : z812 = 16 := h813.trans (by decide)
    subst h816
    refine g_iload_n (n := 0) rfl rfl ?_
    refine g_iconst rfl ?_
    refine g_iushr rfl ?_
    intro z817 h818 h819 h820
    have h821 : z817 = 4 := h818.trans (by decide)
    subst h821
    refine g_ldcw (n := 266) (x := 858993459) (by decide +kernel) (show decode cJ6_bitCount_0f7a4 18 = .ok (.ldc_w 266, 3) by decide +kernel) ?_
    refine g_iand rfl ?_
    intro z822 h823 h824 h825
    have h826 : z822 = 0 := h823.trans (by decide)
    subst h826
    refine g_iaddE (z := 16) (by decide) rfl ?_
    refine g_istore_n (n := 0) (lo' := []) rfl rfl ?_
    refine g_iload_n (n := 0) rfl rfl ?_
    refine g_iload_n (n := 0) rfl rfl ?_
    refine g_iconst rfl ?_
    refine g_iushr rfl ?_
    intro z827 h828 h829 h830
    have h831 : z827 = 1 := h828.trans (by decide)
    subst h831
    refine g_iaddE (z := 17) (by decide) rfl ?_
    refine g_ldcw (n := 267) (x := 252645135) (by decide +kernel) (show decode cJ6_bitCount_0f7a4 29 = .ok (.ldc_w 267, 3) by decide +kernel) ?_
    refine g_iand rfl ?_
    intro z832 h833 h834 h835
    have h836 : z832 = 1 := h833.trans (by decide)
    subst h836
    refine g_istore_n (n := 0) (lo' := []) rfl rfl ?_
    refine g_iload_n (n := 0) rfl rfl ?_
    refine g_iload_n (n := 0) rfl rfl ?_
    refine g_bipush (by decide) rfl ?_
    refine g_iushr rfl ?_
    intro z837 h838 h839 h840
    have h841 : z837 = 0 := h838.trans (by decide)
    subst h841
    refine g_iaddE (z := 1) (by decide) rfl ?_
    refine g_istore_n (n := 0) (lo' := []) rfl rfl ?_
    refine g_iload_n (n := 0) rfl rfl ?_
    refine g_iload_n (n := 0) rfl rfl ?_
    refine g_bipush (by decide) rfl ?_
    refine g_iushr rfl ?_
    intro z842 h843 h844 h845
    have h846 : z842 = 0 := h843.trans (by decide)
    subst h846
    refine g_iaddE (z := 1) (by decide) rfl ?_
    refine g_istore_n (n := 0) (lo' := []) rfl rfl ?_
    refine g_iload_n (n := 0) rfl rfl ?_
    refine g_bipush (by decide) rfl ?_
    refine g_iand rfl ?_
    intro z847 h848 h849 h850
    have h851 : z847 = 1 := h848.trans (by decide)
    subst h851
    refine g_iret rfl rfl ?_
    exact ⟨_, _, rfl, rfl, by decide, by decide, by decide⟩
  · refine g_iload_n (n := 0) rfl rfl ?_
    refine g_iload_n (n := 0) rfl rfl ?_
    refine g_iconst rfl ?_
    refine g_iushr rfl ?_
    intro z852 h853 h854 h855
    have h856 : z852 = 8 := h853.trans (by decide)
    subst h856
    refine g_ldcw (n := 265) (x := 1431655765) (by decide +kernel) (show decode cJ6_bitCount_0f7a4 4 = .ok (.ldc_w 265, 3) by decide +kernel) ?_
    refine g_iand rfl ?_
    intro z857 h858 h859 h860
    have h861 : z857 = 0 := h858.trans (by decide)
    subst h861
    refine g_isubE (z := 17) (by decide) rfl ?_
    refine g_istore_n (n := 0) (lo' := []) rfl rfl ?_
    refine g_iload_n (n := 0) rfl rfl ?_
    refine g_ldcw (n := 266) (x := 858993459) (by decide +kernel) (show decode cJ6_bitCount_0f7a4 11 = .ok (.ldc_w 266, 3) by decide +kernel) ?_
    refine g_iand rfl ?_
    intro z862 h863 h864 h865
    have h866 : z862 = 17 := h863.trans (by decide)
    subst h866
    refine g_iload_n (n := 0) rfl rfl ?_
    refine g_iconst rfl ?_
    refine g_iushr rfl ?_
    intro z867 h868 h869 h870
    have h871 : z867 = 4 := h868.trans (by decide)
    subst h871
    refine g_ldcw (n := 266) (x := 858993459) (by decide +kernel) (show decode cJ6_bitCount_0f7a4 18 = .ok (.ldc_w 266, 3) by decide +kernel) ?_
    refine g_iand rfl ?_
    intro z872 h873 h874 h875
    have h876 : z872 = 0 := h873.trans (by decide)
    subst h876
    refine g_iaddE (z := 17) (by decide) rfl ?_
    refine g_istore_n (n := 0) (lo' := []) rfl rfl ?_
    refine g_iload_n (n := 0) rfl rfl ?_
    refine g_iload_n (n := 0) rfl rfl ?_
    refine g_iconst rfl ?_
    refine g_iushr rfl ?_
    intro z877 h878 h879 h880
    have h881 : z877 = 1 := h878.trans (by decide)
    subst h881
    refine g_iaddE (z := 18) (by decide) rfl ?_
    refine g_ldcw (n := 267) (x := 252645135) (by decide +kernel) (show decode cJ6_bitCount_0f7a4 29 = .ok (.ldc_w 267, 3) by decide +kernel) ?_
    refine g_iand rfl ?_
    intro z882 h883 h884 h885
    have h886 : z882 = 2 := h883.trans (by decide)
    subst h886
    refine g_istore_n (n := 0) (lo' := []) rfl rfl ?_
    refine g_iload_n (n := 0) rfl rfl ?_
    refine g_iload_n (n := 0) rfl rfl ?_
    refine g_bipush (by decide) rfl ?_
    refine g_iushr rfl ?_
    intro z887 h888 h889 h890
    have h891 : z887 = 0 := h888.trans (by decide)
    subst h891
    refine g_iaddE (z := 2) (by decide) rfl ?_
    refine g_istore_n (n := 0) (lo' := []) rfl rfl ?_
    refine g_iload_n (n := 0) rfl rfl ?_
    refine g_iload_n (n := 0) rfl rfl ?_
    refine g_bipush (by decide) rfl ?_
    refine g_iushr rfl ?_
    intro z892 h893 h894 h895
    have h896 : z892 = 0 := h893.trans (by decide)
    subst h896
    refine g_iaddE (z := 2) (by decide) rfl ?_
    refine g_istore_n (n := 0) (lo' := []) rfl rfl ?_
    refine g_iload_n (n := 0) rfl rfl ?_
    refine g_bipush (by decide) rfl ?_
    refine g_iand rfl ?_
    intro z897 h898 h899 h900
    have h901 : z897 = 2 := h898.trans (by decide)
    subst h901
    refine g_iret rfl rfl ?_
    exact ⟨_, _, rfl, rfl, by decide, by decide, by decide⟩
  · refine g_iload_n (n := 0) rfl rfl ?_
    refine g_iload_n (n := 0) rfl rfl ?_
    refine g_iconst rfl ?_
    refine g_iushr rfl ?_
    intro z902 h903 h904 h905
    have h906 : z902 = 9 := h903.trans (by decide)
    subst h906
    refine g_ldcw (n := 265) (x := 1431655765) (by decide +kernel) (show decode cJ6_bitCount_0f7a4 4 = .ok (.ldc_w 265, 3) by decide +kernel) ?_
    refine g_iand rfl ?_
    intro z907 h908 h909 h910
    have h911 : z907 = 1 := h908.trans (by decide)
    subst h911
    refine g_isubE (z := 17) (by decide) rfl ?_
    refine g_istore_n (n := 0) (lo' := []) rfl rfl ?_
    refine g_iload_n (n := 0) rfl rfl ?_
    refine g_ldcw (n := 266) (x := 858993459) (by decide +kernel) (show decode cJ6_bitCount_0f7a4 11 = .ok (.ldc_w 266, 3) by decide +kernel) ?_
    refine g_iand rfl ?_
    intro z912 h913 h914 h915
    have h916 : z912 = 17 := h913.trans (by decide)
    subst h916
    refine g_iload_n (n := 0) rfl rfl ?_
    refine g_iconst rfl ?_
    refine g_iushr rfl ?_
    intro z917 h918 h919 h920
    have h921 : z917 = 4 := h918.trans (by decide)
    subst h921
    refine g_ldcw (n := 266) (x := 858993459) (by decide +kernel) (show decode cJ6_bitCount_0f7a4 18 = .ok (.ldc_w 266, 3) by decide +kernel) ?_
    refine g_iand rfl ?_
    intro z922 h923 h924 h925
    have h926 : z922 = 0 := h923.trans (by decide)
    subst h926
    refine g_iaddE (z := 17) (by decide) rfl ?_
    refine g_istore_n (n := 0) (lo' := []) rfl rfl ?_
    refine g_iload_n (n := 0) rfl rfl ?_
    refine g_iload_n (n := 0) rfl rfl ?_
    refine g_iconst rfl ?_
    refine g_iushr rfl ?_
    intro z927 h928 h929 h930
    have h931 : z927 = 1 := h928.trans (by decide)
    subst h931
    refine g_iaddE (z := 18) (by decide) rfl ?_
    refine g_ldcw (n := 267) (x := 252645135) (by decide +kernel) (show decode cJ6_bitCount_0f7a4 29 = .ok (.ldc_w 267, 3) by decide +kernel) ?_
    refine g_iand rfl ?_
    intro z932 h933 h934 h935
    have h936 : z932 = 2 := h933.trans (by decide)
    subst h936
    refine g_istore_n (n := 0) (lo' := []) rfl rfl ?_
    refine g_iload_n (n := 0) rfl rfl ?_
    refine g_iload_n (n := 0) rfl rfl ?_
    refine g_bipush (by decide) rfl ?_
    refine g_iushr rfl ?_
    intro z937 h938 h939 h940
    have h941 : z937 = 0 := h938.trans (by decide)
    subst h941
    refine g_iaddE (z := 2) (by decide) rfl ?_
    refine g_istore_n (n := 0) (lo' := []) rfl rfl ?_
    refine g_iload_n (n := 0) rfl rfl ?_
    refine g_iload_n (n := 0) rfl rfl ?_
    refine g_bipush (by decide) rfl ?_
    refine g_iushr rfl ?_
    intro z942 h943 h944 h945
    have h946 : z942 = 0 := h943.trans (by decide)
    subst h946
    refine g_iaddE (z := 2) (by decide) rfl ?_
    refine g_istore_n (n := 0) (lo' := []) rfl rfl ?_
    refine g_iload_n (n := 0) rfl rfl ?_
    refine g_bipush (by decide) rfl ?_
    refine g_iand rfl ?_
    intro z947 h948 h949 h950
    have h951 : z947 = 2 := h948.trans (by decide)
    subst h951
    refine g_iret rfl rfl ?_
    exact ⟨_, _, rfl, rfl, by decide, by decide, by decide⟩
  · refine g_iload_n (n := 0) rfl rfl ?_
    refine g_iload_n (n := 0) rfl rfl ?_
    refine g_iconst rfl ?_
    refine g_iushr rfl ?_
    intro z952 h953 h954 h955
    have h956 : z952 = 9 := h953.trans (by decide)
    subst h956
    refine g_ldcw (n := 265) (x := 1431655765) (by decide +kernel) (show decode cJ6_bitCount_0f7a4 4 = .ok (.ldc_w 265, 3) by decide +kernel) ?_
    refine g_iand rfl ?_
    intro z957 h958 h959 h960
    have h961 : z957 = 1 := h958.trans (by decide)
    subst h961
    refine g_isubE (z := 18) (by decide) rfl ?_
    refine g_istore_n (n := 0) (lo' := []) rfl rfl ?_
    refine g_iload_n (n := 0) rfl rfl ?_
    refine g_ldcw (n := 266) (x := 858993459) (by decide +kernel) (show decode cJ6_bitCount_0f7a4 11 = .ok (.ldc_w 266, 3) by decide +kernel) ?_
    refine g_iand rfl ?_
    intro z962 h963 h964 h965
    have h966 : z962 = 18 := h963.trans (by decide)
    subst h966
    refine g_iload_n (n := 0) rfl rfl ?_
    refine g_iconst rfl ?_
    refine g_iushr rfl ?_
    intro z967 h968 h969 h970
    have h971 : z967 = 4 := h968.trans (by decide)
    subst h971
    refine g_ldcw (n := 266) (x := 858993459) (by decide +kernel) (show decode cJ6_bitCount_0f7a4 18 = .ok (.ldc_w 266, 3) by decide +kernel) ?_
    refine g_iand rfl ?_
    intro z972 h973 h974 h975
    have h976 : z972 = 0 := h973.trans (by decide)
    subst h976
    refine g_iaddE (z := 18) (by decide) rfl ?_
    refine g_istore_n (n := 0) (lo' := []) rfl rfl ?_
    refine g_iload_n (n := 0) rfl rfl ?_
    refine g_iload_n (n := 0) rfl rfl ?_
    refine g_iconst rfl ?_
    refine g_iushr rfl ?_
    intro z977 h978 h979 h980
    have h981 : z977 = 1 := h978.trans (by decide)
    subst h981
    refine g_iaddE (z := 19) (by decide) rfl ?_
    refine g_ldcw (n := 267) (x := 252645135) (by decide +kernel) (show decode cJ6_bitCount_0f7a4 29 = .ok (.ldc_w 267, 3) by decide +kernel) ?_
    refine g_iand rfl ?_
    intro z982 h983 h984 h985
    have h986 : z982 = 3 := h983.trans (by decide)
    subst h986
    refine g_istore_n (n := 0) (lo' := []) rfl rfl ?_
    refine g_iload_n (n := 0) rfl rfl ?_
    refine g_iload_n (n := 0) rfl rfl ?_
    refine g_bipush (by decide) rfl ?_
    refine g_iushr rfl ?_
    intro z987 h988 h989 h990
    have h991 : z987 = 0 := h988.trans (by decide)
    subst h991
    refine g_iaddE (z := 3) (by decide) rfl ?_
    refine g_istore_n (n := 0) (lo' := []) rfl rfl ?_
    refine g_iload_n (n := 0) rfl rfl ?_
    refine g_iload_n (n := 0) rfl rfl ?_
    refine g_bipush (by decide) rfl ?_
    refine g_iushr rfl ?_
    intro z992 h993 h994 h995
    have h996 : z992 = 0 := h993.trans (by decide)
    subst h996
    refine g_iaddE (z := 3) (by decide) rfl ?_
    refine g_istore_n (n := 0) (lo' := []) rfl rfl ?_
    refine g_iload_n (n := 0) rfl rfl ?_
    refine g_bipush (by decide) rfl ?_
    refine g_iand rfl ?_
    intro z997 h998 h999 h1000
    have h1001 : z997 = 3 := h998.trans (by decide)
    subst h1001
    refine g_iret rfl rfl ?_
    exact ⟨_, _, rfl, rfl, by decide, by decide, by decide⟩
  · refine g_iload_n (n := 0) rfl rfl ?_
    refine g_iload_n (n := 0) rfl rfl ?_
    refine g_iconst rfl ?_
    refine g_iushr rfl ?_
    intro z1002 h1003 h1004 h1005
    have h1006 : z1002 = 10 := h1003.trans (by decide)
    subst h1006
    refine g_ldcw (n := 265) (x := 1431655765) (by decide +kernel) (show decode cJ6_bitCount_0f7a4 4 = .ok (.ldc_w 265, 3) by decide +kernel) ?_
    refine g_iand rfl ?_
    intro z1007 h1008 h1009 h1010
    have h1011 : z1007 = 0 := h1008.trans (by decide)
    subst h1011
    refine g_isubE (z := 20) (by decide) rfl ?_
    refine g_istore_n (n := 0) (lo' := []) rfl rfl ?_
    refine g_iload_n (n := 0) rfl rfl ?_
    refine g_ldcw (n := 266) (x := 858993459) (by decide +kernel) (show decode cJ6_bitCount_0f7a4 11 = .ok (.ldc_w 266, 3) by decide +kernel) ?_
    refine g_iand rfl ?_
    intro z1012 h1013 h1014 h1015
    have h1016 : z1012 = 16 := h1013.trans (by decide)
    subst h1016
    refine g_iload_n (n := 0) rfl rfl ?_
    refine g_iconst rfl ?_
    refine g_iushr rfl ?_
    intro z1017 h1018 h1019 h1020
    have h1021 : z1017 = 5 := h1018.trans (by decide)
    subst h1021
    refine g_ldcw (n := 266) (x := 858993459) (by decide +kernel) (show decode cJ6_bitCount_0f7a4 18 = .ok (.ldc_w 266, 3) by decide +kernel) ?_
    refine g_iand rfl ?_
    intro z1022 h1023 h1024 h1025
    have h1026 : z1022 = 1 := h1023.trans (by decide)
    subst h1026
    refine g_iaddE (z := 17) (by decide) rfl ?_
    refine g_istore_n (n := 0) (lo' := []) rfl rfl ?_
    refine g_iload_n (n := 0) rfl rfl ?_
    refine g_iload_n (n := 0) rfl rfl ?_
    refine g_iconst rfl ?_
    refine g_iushr rfl ?_
    intro z1027 h1028 h1029 h1030
    have h1031 : z1027 = 1 := h1028.trans (by decide)
    subst h1031
    refine g_iaddE (z := 18) (by decide) rfl ?_
    refine g_ldcw (n := 267) (x := 252645135) (by decide +kernel) (show decode cJ6_bitCount_0f7a4 29 = .ok (.ldc_w 267, 3) by decide +kernel) ?_
    refine g_iand rfl ?_
    intro z1032 h1033 h1034 h1035
    have h1036 : z1032 = 2 := h1033.trans (by decide)
    subst h1036
    refine g_istore_n (n := 0) (lo' := []) rfl rfl ?_
    refine g_iload_n (n := 0) rfl rfl ?_
    refine g_iload_n (n := 0) rfl rfl ?_
    refine g_bipush (by decide) rfl ?_
    refine g_iushr rfl ?_
    intro z1037 h1038 h1039 h1040
    have h1041 : z1037 = 0 := h1038.trans (by decide)
    subst h1041
    refine g_iaddE (z := 2) (by decide) rfl ?_
    refine g_istore_n (n := 0) (lo' := []) rfl rfl ?_
    refine g_iload_n (n := 0) rfl rfl ?_
    refine g_iload_n (n := 0) rfl rfl ?_
    refine g_bipush (by decide) rfl ?_
    refine g_iushr rfl ?_
    intro z1042 h1043 h1044 h1045
    have h1046 : z1042 = 0 := h1043.trans (by decide)
    subst h1046
    refine g_iaddE (z := 2) (by decide) rfl ?_
    refine g_istore_n (n := 0) (lo' := []) rfl rfl ?_
    refine g_iload_n (n := 0) rfl rfl ?_
    refine g_bipush (by decide) rfl ?_
    refine g_iand rfl ?_
    intro z1047 h1048 h1049 h1050
    have h1051 : z1047 = 2 := h1048.trans (by decide)
    subst h1051
    refine g_iret rfl rfl ?_
    exact ⟨_, _, rfl, rfl, by decide, by decide, by decide⟩
  · refine g_iload_n (n := 0) rfl rfl ?_
    refine g_iload_n (n := 0) rfl rfl ?_
    refine g_iconst rfl ?_
    refine g_iushr rfl ?_
    intro z1052 h1053 h1054 h1055
    have h1056 : z1052 = 10 := h1053.trans (by decide)
    subst h1056
    refine g_ldcw (n := 265) (x := 1431655765) (by decide +kernel) (show decode cJ6_bitCount_0f7a4 4 = .ok (.ldc_w 265, 3) by decide +kernel) ?_
    refine g_iand rfl ?_
    intro z1057 h1058 h1059 h1060
    have h1061 : z1057 = 0 := h1058.trans (by decide)
    subst h1061
    refine g_isubE (z := 21) (by decide) rfl ?_
    refine g_istore_n (n := 0) (lo' := []) rfl rfl ?_
    refine g_iload_n (n := 0) rfl rfl ?_
    refine g_ldcw (n := 266) (x := 858993459) (by decide +kernel) (show decode cJ6_bitCount_0f7a4 11 = .ok (.ldc_w 266, 3) by decide +kernel) ?_
    refine g_iand rfl ?_
    intro z1062 h1063 h1064 h1065
    have h1066 : z1062 = 17 := h1063.trans (by decide)
    subst h1066
    refine g_iload_n (n := 0) rfl rfl ?_
    refine g_iconst rfl ?_
    refine g_iushr rfl ?_
    intro z1067 h1068 h1069 h1070
    have h1071 : z1067 = 5 := h1068.trans (by decide)
    subst h1071
    refine g_ldcw (n := 266) (x := 858993459) (by decide +kernel) (show decode cJ6_bitCount_0f7a4 18 = .ok (.ldc_w 266, 3) by decide +kernel) ?_
    refine g_iand rfl ?_
    intro z1072 h1073 h1074 h1075
    have h1076 : z1072 = 1 := h1073.trans (by decide)
    subst h1076
    refine g_iaddE (z := 18) (by decide) rfl ?_
    refine g_istore_n (n := 0) (lo' := []) rfl rfl ?_
    refine g_iload_n (n := 0) rfl rfl ?_
    refine g_iload_n (n := 0) rfl rfl ?_
    refine g_iconst rfl ?_
    refine g_iushr rfl ?_
    intro z1077 h1078 h1079 h1080
    have h1081 : z1077 = 1 := h1078.trans (by decide)
    subst h1081
    refine g_iaddE (z := 19) (by decide) rfl ?_
    refine g_ldcw (n := 267) (x := 252645135) (by decide +kernel) (show decode cJ6_bitCount_0f7a4 29 = .ok (.ldc_w 267, 3) by decide +kernel) ?_
    refine g_iand rfl ?_
    intro z1082 h1083 h1084 h1085
    have h1086 : z1082 = 3 := h1083.trans (by decide)
    subst h1086
    refine g_istore_n (n := 0) (lo' := []) rfl rfl ?_
    refine g_iload_n (n := 0) rfl rfl ?_
    refine g_iload_n (n := 0) rfl rfl ?_
    refine g_bipush (by decide) rfl ?_
    refine g_iushr rfl ?_
    intro z1087 h1088 h1089 h1090
    have h1091 : z1087 = 0 := h1088.trans (by decide)
    subst h1091
    refine g_iaddE (z := 3) (by decide) rfl ?_
    refine g_istore_n (n := 0) (lo' := []) rfl rfl ?_
    refine g_iload_n (n := 0) rfl rfl ?_
    refine g_iload_n (n := 0) rfl rfl ?_
    refine g_bipush (by decide) rfl ?_
    refine g_iushr rfl ?_
    intro z1092 h1093 h1094 h1095
    have h1096 : z1092 = 0 := h1093.trans (by decide)
    subst h1096
    refine g_iaddE (z := 3) (by decide) rfl ?_
    refine g_istore_n (n := 0) (lo' := []) rfl rfl ?_
    refine g_iload_n (n := 0) rfl rfl ?_
    refine g_bipush (by decide) rfl ?_
    refine g_iand rfl ?_
    intro z1097 h1098 h1099 h1100
    have h1101 : z1097 = 3 := h1098.trans (by decide)
    subst h1101
    refine g_iret rfl rfl ?_
    exact ⟨_, _, rfl, rfl, by decide, by decide, by decide⟩
  · refine g_iload_n (n := 0) rfl rfl ?_
    refine g_iload_n (n := 0) rfl rfl ?_
    refine g_iconst rfl ?_
    refine g_iushr rfl ?_
    intro z1102 h1103 h1104 h1105
    have h1106 : z1102 = 11 := h1103.trans (by decide)
    subst h1106
    refine g_ldcw (n := 265) (x := 1431655765) (by decide +kernel) (show decode cJ6_bitCount_0f7a4 4 = .ok (.ldc_w 265, 3) by decide +kernel) ?_
    refine g_iand rfl ?_
    intro z1107 h1108 h1109 h1110
    have h1111 : z1107 = 1 := h1108.trans (by decide)
    subst h1111
    refine g_isubE (z := 21) (by decide) rfl ?_
    refine g_istore_n (n := 0) (lo' := []) rfl rfl ?_
    refine g_iload_n (n := 0) rfl rfl ?_
    refine g_ldcw (n := 266) (x := 858993459) (by decide +kernel) (show decode cJ6_bitCount_0f7a4 11 = .ok (.ldc_w 266, 3) by decide +kernel) ?_
    refine g_iand rfl ?_
    intro z1112 h1113 h1114 h1115
    have h1116 : z1112 = 17 := h1113.trans (by decide)
    subst h1116
    refine g_iload_n (n := 0) rfl rfl ?_
    refine g_iconst rfl ?_
    refine g_iushr rfl ?_
    intro z1117 h1118 h1119 h1120
    have h1121 : z1117 = 5 := h1118.trans (by decide)
    subst h1121
    refine g_ldcw (n := 266) (x := 858993459) (by decide +kernel) (show decode cJ6_bitCount_0f7a4 18 = .ok (.ldc_w 266, 3) by decide +kernel) ?_
    refine g_iand rfl ?_
    intro z1122 h1123 h1124 h1125
    have h1126 : z1122 = 1 := h1123.trans (by decide)
    subst h1126
    refine g_iaddE (z := 18) (by decide) rfl ?_
    refine g_istore_n (n := 0) (lo' := []) rfl rfl ?_
    refine g_iload_n (n := 0) rfl rfl ?_
    refine g_iload_n (n := 0) rfl rfl ?_
    refine g_iconst rfl ?_
    refine g_iushr rfl ?_
    intro z1127 h1128 h1129 h1130
    have h1131 : z1127 = 1 := h1128.trans (by decide)
    subst h1131
    refine g_iaddE (z := 19) (by decide) rfl ?_
    refine g_ldcw (n := 267) (x := 252645135) (by decide +kernel) (show decode cJ6_bitCount_0f7a4 29 = .ok (.ldc_w 267, 3) by decide +kernel) ?_
    refine g_iand rfl ?_
    intro z1132 h1133 h1134 h1135
    have h1136 : z1132 = 3 := h1133.trans (by decide)
    subst h1136
    refine g_istore_n (n := 0) (lo' := []) rfl rfl ?_
    refine g_iload_n (n := 0) rfl rfl ?_
    refine g_iload_n (n := 0) rfl rfl ?_
    refine g_bipush (by decide) rfl ?_
    refine g_iushr rfl ?_
    intro z1137 h1138 h1139 h1140
    have h1141 : z1137 = 0 := h1138.trans (by decide)
    subst h1141
    refine g_iaddE (z := 3) (by decide) rfl ?_
    refine g_istore_n (n := 0) (lo' := []) rfl rfl ?_
    refine g_iload_n (n := 0) rfl rfl ?_
    refine g_iload_n (n := 0) rfl rfl ?_
    refine g_bipush (by decide) rfl ?_
    refine g_iushr rfl ?_
    intro z1142 h1143 h1144 h1145
    have h1146 : z1142 = 0 := h1143.trans (by decide)
    subst h1146
    refine g_iaddE (z := 3) (by decide) rfl ?_
    refine g_istore_n (n := 0) (lo' := []) rfl rfl ?_
    refine g_iload_n (n := 0) rfl rfl ?_
    refine g_bipush (by decide) rfl ?_
    refine g_iand rfl ?_
    intro z1147 h1148 h1149 h1150
    have h1151 : z1147 = 3 := h1148.trans (by decide)
    subst h1151
    refine g_iret rfl rfl ?_
    exact ⟨_, _, rfl, rfl, by decide, by decide, by decide⟩
  · refine g_iload_n (n := 0) rfl rfl ?_
    refine g_iload_n (n := 0) rfl rfl ?_
    refine g_iconst rfl ?_
    refine g_iushr rfl ?_
    intro z1152 h1153 h1154 h1155
    have h1156 : z1152 = 11 := h1153.trans (by decide)
    subst h1156
    refine g_ldcw (n := 265) (x := 1431655765) (by decide +kernel) (show decode cJ6_bitCount_0f7a4 4 = .ok (.ldc_w 265, 3) by decide +kernel) ?_
    refine g_iand rfl ?_
    intro z1157 h1158 h1159 h1160
    have h1161 : z1157 = 1 := h1158.trans (by decide)
    subst h1161
    refine g_isubE (z := 22) (by decide) rfl ?_
    refine g_istore_n (n := 0) (lo' := []) rfl rfl ?_
    refine g_iload_n (n := 0) rfl rfl ?_
    refine g_ldcw (n := 266) (x := 858993459) (by decide +kernel) (show decode cJ6_bitCount_0f7a4 11 = .ok (.ldc_w 266, 3) by decide +kernel) ?_
    refine g_iand rfl ?_
    intro z1162 h1163 h1164 h1165
    have h1166 : z1162 = 18 := h1163.trans (by decide)
    subst h1166
    refine g_iload_n (n := 0) rfl rfl ?_
    refine g_iconst rfl ?_
    refine g_iushr rfl ?_
    intro z1167 h1168 h1169 h1170
    have h1171 : z1167 = 5 := h1168.trans (by decide)
    subst h1171
    refine g_ldcw (n := 266) (x := 858993459) (by decide +kernel) (show decode cJ6_bitCount_0f7a4 18 = .ok (.ldc_w 266, 3) by decide +kernel) ?_
    refine g_iand rfl ?_
    intro z1172 h1173 h1174 h1175
    have h1176 : z1172 = 1 := h1173.trans (by decide)
    subst h1176
    refine g_iaddE (z := 19) (by decide) rfl ?_
    refine g_istore_n (n := 0) (lo' := []) rfl rfl ?_
    refine g_iload_n (n := 0) rfl rfl ?_
    refine g_iload_n (n := 0) rfl rfl ?_
    refine g_iconst rfl ?_
    refine g_iushr rfl ?_
    intro z1177 h1178 h1179 h1180
    have h1181 : z1177 = 1 := h1178.trans (by decide)
    subst h1181
    refine g_iaddE (z := 20) (by decide) rfl ?_
    refine g_ldcw (n := 267) (x := 252645135) (by decide +kernel) (show decode cJ6_bitCount_0f7a4 29 = .ok (.ldc_w 267, 3) by decide +kernel) ?_
    refine g_iand rfl ?_
    intro z1182 h1183 h1184 h1185
    have h1186 : z1182 = 4 := h1183.trans (by decide)
    subst h1186
    refine g_istore_n (n := 0) (lo' := []) rfl rfl ?_
    refine g_iload_n (n := 0) rfl rfl ?_
    refine g_iload_n (n := 0) rfl rfl ?_
    refine g_bipush (by decide) rfl ?_
    refine g_iushr rfl ?_
    intro z1187 h1188 h1189 h1190
    have h1191 : z1187 = 0 := h1188.trans (by decide)
    subst h1191
    refine g_iaddE (z := 4) (by decide) rfl ?_
    refine g_istore_n (n := 0) (lo' := []) rfl rfl ?_
    refine g_iload_n (n := 0) rfl rfl ?_
    refine g_iload_n (n := 0) rfl rfl ?_
    refine g_bipush (by decide) rfl ?_
    refine g_iushr rfl ?_
    intro z1192 h1193 h1194 h1195
    have h1196 : z1192 = 0 := h1193.trans (by decide)
    subst h1196
    refine g_iaddE (z := 4) (by decide) rfl ?_
    refine g_istore_n (n := 0) (lo' := []) rfl rfl ?_
    refine g_iload_n (n := 0) rfl rfl ?_
    refine g_bipush (by decide) rfl ?_
    refine g_iand rfl ?_
    intro z1197 h1198 h1199 h1200
    have h1201 : z1197 = 4 := h1198.trans (by decide)
    subst h1201
    refine g_iret rfl rfl ?_
    exact ⟨_, _, rfl, rfl, by decide, by decide, by decide⟩
  · refine g_iload_n (n := 0) rfl rfl ?_
    refine g_iload_n (n := 0) rfl rfl ?_
    refine g_iconst rfl ?_
    refine g_iushr rfl ?_
    intro z1202 h1203 h1204 h1205
    have h1206 : z1202 = 12 := h1203.trans (by decide)
    subst h1206
    refine g_ldcw (n := 265) (x := 1431655765) (by decide +kernel) (show decode cJ6_bitCount_0f7a4 4 = .ok (.ldc_w 265, 3) by decide +kernel) ?_
    refine g_iand rfl ?_
    intro z1207 h1208 h1209 h1210
    have h1211 : z1207 = 4 := h1208.trans (by decide)
    subst h1211
    refine g_isubE (z := 20) (by decide) rfl ?_
    refine g_istore_n (n := 0) (lo' := []) rfl rfl ?_
    refine g_iload_n (n := 0) rfl rfl ?_
    refine g_ldcw (n := 266) (x := 858993459) (by decide +kernel) (show decode cJ6_bitCount_0f7a4 11 = .ok (.ldc_w 266, 3) by decide +kernel) ?_
    refine g_iand rfl ?_
    intro z1212 h1213 h1214 h1215
    have h1216 : z1212 = 16 := h1213.trans (by decide)
    subst h1216
    refine g_iload_n (n := 0) rfl rfl ?_
    refine g_iconst rfl ?_
    refine g_iushr rfl ?_
    intro z1217 h1218 h1219 h1220
    have h1221 : z1217 = 5 := h1218.trans (by decide)
    subst h1221
    refine g_ldcw (n := 266) (x := 858993459) (by decide +kernel) (show decode cJ6_bitCount_0f7a4 18 = .ok (.ldc_w 266, 3) by decide +kernel) ?_
    refine g_iand rfl ?_
    intro z1222 h1223 h1224 h1225
    have h1226 : z1222 = 1 := h1223.trans (by decide)
    subst h1226
    refine g_iaddE (z := 17) (by decide) rfl ?_
    refine g_istore_n (n := 0) (lo' := []) rfl rfl ?_
    refine g_iload_n (n := 0) rfl rfl ?_
    refine g_iload_n (n := 0) rfl rfl ?_
    refine g_iconst rfl ?_
    refine g_iushr rfl ?_
    intro z1227 h1228 h1229 h1230
    have h1231 : z1227 = 1 := h1228.trans (by decide)
    subst h1231
    refine g_iaddE (z := 18) (by decide) rfl ?_
    refine g_ldcw (n := 267) (x := 252645135) (by decide +kernel) (show decode cJ6_bitCount_0f7a4 29 = .ok (.ldc_w 267, 3) by decide +kernel) ?_
    refine g_iand rfl ?_
    intro z1232 h1233 h1234 h1235
    have h1236 : z1232 = 2 := h1233.trans (by decide)
    subst h1236
    refine g_istore_n (n := 0) (lo' := []) rfl rfl ?_
    refine g_iload_n (n := 0) rfl rfl ?_
    refine g_iload_n (n := 0) rfl rfl ?_
    refine g_bipush (by decide) rfl ?_
    refine g_iushr rfl ?_
    intro z1237 h1238 h1239 h1240
    have h1241 : z1237 = 0 := h1238.trans (by decide)
    subst h1241
    refine g_iaddE (z := 2) (by decide) rfl ?_
    refine g_istore_n (n := 0) (lo' := []) rfl rfl ?_
    refine g_iload_n (n := 0) rfl rfl ?_
    refine g_iload_n (n := 0) rfl rfl ?_
    refine g_bipush (by decide) rfl ?_
    refine g_iushr rfl ?_
    intro z1242 h1243 h1244 h1245
    have h1246 : z1242 = 0 := h1243.trans (by decide)
    subst h1246
    refine g_iaddE (z := 2) (by decide) rfl ?_
    refine g_istore_n (n := 0) (lo' := []) rfl rfl ?_
    refine g_iload_n (n := 0) rfl rfl ?_
    refine g_bipush (by decide) rfl ?_
    refine g_iand rfl ?_
    intro z1247 h1248 h1249 h1250
    have h1251 : z1247 = 2 := h1248.trans (by decide)
    subst h1251
    refine g_iret rfl rfl ?_
    exact ⟨_, _, rfl, rfl, by decide, by decide, by decide⟩
  · refine g_iload_n (n := 0) rfl rfl ?_
    refine g_iload_n (n := 0) rfl rfl ?_
    refine g_iconst rfl ?_
    refine g_iushr rfl ?_
    intro z1252 h1253 h1254 h1255
    have h1256 : z1252 = 12 := h1253.trans (by decide)
    subst h1256
    refine g_ldcw (n := 265) (x := 1431655765) (by decide +kernel) (show decode cJ6_bitCount_0f7a4 4 = .ok (.ldc_w 265, 3) by decide +kernel) ?_
    refine g_iand rfl ?_
    intro z1257 h1258 h1259 h1260
    have h1261 : z1257 = 4 := h1258.trans (by decide)
    subst h1261
    refine g_isubE (z := 21) (by decide) rfl ?_
    refine g_istore_n (n := 0) (lo' := []) rfl rfl ?_
    refine g_iload_n (n := 0) rfl rfl ?_
    refine g_ldcw (n := 266) (x := 858993459) (by decide +kernel) (show decode cJ6_bitCount_0f7a4 11 = .ok (.ldc_w 266, 3) by decide +kernel) ?_
    refine g_iand rfl ?_
    intro z1262 h1263 h1264 h1265
    have h1266 : z1262 = 17 := h1263.trans (by decide)
    subst h1266
    refine g_iload_n (n := 0) rfl rfl ?_
    refine g_iconst rfl ?_
    refine g_iushr rfl ?_
    intro z1267 h1268 h1269 h1270
    have h1271 : z1267 = 5 := h1268.trans (by decide)
    subst h1271
    refine g_ldcw (n := 266) (x := 858993459) (by decide +kernel) (show decode cJ6_bitCount_0f7a4 18 = .ok (.ldc_w 266, 3) by decide +kernel) ?_
    refine g_iand rfl ?_
    intro z1272 h1273 h1274 h1275
    have h1276 : z1272 = 1 := h1273.trans (by decide)
    subst h1276
    refine g_iaddE (z := 18) (by decide) rfl ?_
    refine g_istore_n (n := 0) (lo' := []) rfl rfl ?_
    refine g_iload_n (n := 0) rfl rfl ?_
    refine g_iload_n (n := 0) rfl rfl ?_
    refine g_iconst rfl ?_
    refine g_iushr rfl ?_
    intro z1277 h1278 h1279 h1280
    have h1281 : z1277 = 1 := h1278.trans (by decide)
    subst h1281
    refine g_iaddE (z := 19) (by decide) rfl ?_
    refine g_ldcw (n := 267) (x := 252645135) (by decide +kernel) (show decode cJ6_bitCount_0f7a4 29 = .ok (.ldc_w 267, 3) by decide +kernel) ?_
    refine g_iand rfl ?_
    intro z1282 h1283 h1284 h1285
    have h1286 : z1282 = 3 := h1283.trans (by decide)
    subst h1286
    refine g_istore_n (n := 0) (lo' := []) rfl rfl ?_
    refine g_iload_n (n := 0) rfl rfl ?_
    refine g_iload_n (n := 0) rfl rfl ?_
    refine g_bipush (by decide) rfl ?_
    refine g_iushr rfl ?_
    intro z1287 h1288 h1289 h1290
    have h1291 : z1287 = 0 := h1288.trans (by decide)
    subst h1291
    refine g_iaddE (z := 3) (by decide) rfl ?_
    refine g_istore_n (n := 0) (lo' := []) rfl rfl ?_
    refine g_iload_n (n := 0) rfl rfl ?_
    refine g_iload_n (n := 0) rfl rfl ?_
    refine g_bipush (by decide) rfl ?_
    refine g_iushr rfl ?_
    intro z1292 h1293 h1294 h1295
    have h1296 : z1292 = 0 := h1293.trans (by decide)
    subst h1296
    refine g_iaddE (z := 3) (by decide) rfl ?_
    refine g_istore_n (n := 0) (lo' := []) rfl rfl ?_
    refine g_iload_n (n := 0) rfl rfl ?_
    refine g_bipush (by decide) rfl ?_
    refine g_iand rfl ?_
    intro z1297 h1298 h1299 h1300
    have h1301 : z1297 = 3 := h1298.trans (by decide)
    subst h1301
    refine g_iret rfl rfl ?_
    exact ⟨_, _, rfl, rfl, by decide, by decide, by decide⟩
  · refine g_iload_n (n := 0) rfl rfl ?_
    refine g_iload_n (n := 0) rfl rfl ?_
    refine g_iconst rfl ?_
    refine g_iushr rfl ?_
    intro z1302 h1303 h1304 h1305
    have h1306 : z1302 = 13 := h1303.trans (by decide)
    subst h1306
    refine g_ldcw (n := 265) (x := 1431655765) (by decide +kernel) (show decode cJ6_bitCount_0f7a4 4 = .ok (.ldc_w 265, 3) by decide +kernel) ?_
    refine g_iand rfl ?_
    intro z1307 h1308 h1309 h1310
    have h1311 : z1307 = 5 := h1308.trans (by decide)
    subst h1311
    refine g_isubE (z := 21) (by decide) rfl ?_
    refine g_istore_n (n := 0) (lo' := []) rfl rfl ?_
    refine g_iload_n (n := 0) rfl rfl ?_
    refine g_ldcw (n := 266) (x := 858993459) (by decide +kernel) (show decode cJ6_bitCount_0f7a4 11 = .ok (.ldc_w 266, 3) by decide +kernel) ?_
    refine g_iand rfl ?_
    intro z1312 h1313 h1314 h1315
    have h1316 : z1312 = 17 := h1313.trans (by decide)
    subst h1316
    refine g_iload_n (n := 0) rfl rfl ?_
    refine g_iconst rfl ?_
    refine g_iushr rfl ?_
    intro z1317 h1318 h1319 h1320
    have h1321 : z1317 = 5 := h1318.trans (by decide)
    subst h1321
    refine g_ldcw (n := 266) (x := 858993459) (by decide +kernel) (show decode cJ6_bitCount_0f7a4 18 = .ok (.ldc_w 266, 3) by decide +kernel) ?_
    refine g_iand rfl ?_
    intro z1322 h1323 h1324 h1325
    have h1326 : z1322 = 1 := h1323.trans (by decide)
    subst h1326
    refine g_iaddE (z := 18) (by decide) rfl ?_
    refine g_istore_n (n := 0) (lo' := []) rfl rfl ?_
    refine g_iload_n (n := 0) rfl rfl ?_
    refine g_iload_n (n := 0) rfl rfl ?_
    refine g_iconst rfl ?_
    refine g_iushr rfl ?_
    intro z1327 h1328 h1329 h1330
    have h1331 : z1327 = 1 := h1328.trans (by decide)
    subst h1331
    refine g_iaddE (z := 19) (by decide) rfl ?_
    refine g_ldcw (n := 267) (x := 252645135) (by decide +kernel) (show decode cJ6_bitCount_0f7a4 29 = .ok (.ldc_w 267, 3) by decide +kernel) ?_
    refine g_iand rfl ?_
    intro z1332 h1333 h1334 h1335
    have h1336 : z1332 = 3 := h1333.trans (by decide)
    subst h1336
    refine g_istore_n (n := 0) (lo' := []) rfl rfl ?_
    refine g_iload_n (n := 0) rfl rfl ?_
    refine g_iload_n (n := 0) rfl rfl ?_
    refine g_bipush (by decide) rfl ?_
    refine g_iushr rfl ?_
    intro z1337 h1338 h1339 h1340
    have h1341 : z1337 = 0 := h1338.trans (by decide)
    subst h1341
    refine g_iaddE (z := 3) (by decide) rfl ?_
    refine g_istore_n (n := 0) (lo' := []) rfl rfl ?_
    refine g_iload_n (n := 0) rfl rfl ?_
    refine g_iload_n (n := 0) rfl rfl ?_
    refine g_bipush (by decide) rfl ?_
    refine g_iushr rfl ?_
    intro z1342 h1343 h1344 h1345
    have h1346 : z1342 = 0 := h1343.trans (by decide)
    subst h1346
    refine g_iaddE (z := 3) (by decide) rfl ?_
    refine g_istore_n (n := 0) (lo' := []) rfl rfl ?_
    refine g_iload_n (n := 0) rfl rfl ?_
    refine g_bipush (by decide) rfl ?_
    refine g_iand rfl ?_
    intro z1347 h1348 h1349 h1350
    have h1351 : z1347 = 3 := h1348.trans (by decide)
    subst h1351
    refine g_iret rfl rfl ?_
    exact ⟨_, _, rfl, rfl, by decide, by decide, by decide⟩
  · refine g_iload_n (n := 0) rfl rfl ?_
    refine g_iload_n (n := 0) rfl rfl ?_
    refine g_iconst rfl ?_
    refine g_iushr rfl ?_
    intro z1352 h1353 h1354 h1355
    have h1356 : z1352 = 13 := h1353.trans (by decide)
    subst h1356
    refine g_ldcw (n := 265) (x := 1431655765) (by decide +kernel) (show decode cJ6_bitCount_0f7a4 4 = .ok (.ldc_w 265, 3) by decide +kernel) ?_
    refine g_iand rfl ?_
    intro z1357 h1358 h1359 h1360
    have h1361 : z1357 = 5 := h1358.trans (by decide)
    subst h1361
    refine g_isubE (z := 22) (by decide) rfl ?_
    refine g_istore_n (n := 0) (lo' := []) rfl rfl ?_
    refine g_iload_n (n := 0) rfl rfl ?_
    refine g_ldcw (n := 266) (x := 858993459) (by decide +kernel) (show decode cJ6_bitCount_0f7a4 11 = .ok (.ldc_w 266, 3) by decide +kernel) ?_
    refine g_iand rfl ?_
    intro z1362 h1363 h1364 h1365
    have h1366 : z1362 = 18 := h1363.trans (by decide)
    subst h1366
    refine g_iload_n (n := 0) rfl rfl ?_
    refine g_iconst rfl ?_
    refine g_iushr rfl ?_
    intro z1367 h1368 h1369 h1370
    have h1371 : z1367 = 5 := h1368.trans (by decide)
    subst h1371
    refine g_ldcw (n := 266) (x := 858993459) (by decide +kernel) (show decode cJ6_bitCount_0f7a4 18 = .ok (.ldc_w 266, 3) by decide +kernel) ?_
    refine g_iand rfl ?_
    intro z1372 h1373 h1374 h1375
    have h1376 : z1372 = 1 := h1373.trans (by decide)
    subst h1376
    refine g_iaddE (z := 19) (by decide) rfl ?_
    refine g_istore_n (n := 0) (lo' := []) rfl rfl ?_
    refine g_iload_n (n := 0) rfl rfl ?_
    refine g_iload_n (n := 0) rfl rfl ?_
    refine g_iconst rfl ?_
    refine g_iushr rfl ?_
    intro z1377 h1378 h1379 h1380
    have h1381 : z1377 = 1 := h1378.trans (by decide)
    subst h1381
    refine g_iaddE (z := 20) (by decide) rfl ?_
    refine g_ldcw (n := 267) (x := 252645135) (by decide +kernel) (show decode cJ6_bitCount_0f7a4 29 = .ok (.ldc_w 267, 3) by decide +kernel) ?_
    refine g_iand rfl ?_
    intro z1382 h1383 h1384 h1385
    have h1386 : z1382 = 4 := h1383.trans (by decide)
    subst h1386
    refine g_istore_n (n := 0) (lo' := []) rfl rfl ?_
    refine g_iload_n (n := 0) rfl rfl ?_
    refine g_iload_n (n := 0) rfl rfl ?_
    refine g_bipush (by decide) rfl ?_
    refine g_iushr rfl ?_
    intro z1387 h1388 h1389 h1390
    have h1391 : z1387 = 0 := h1388.trans (by decide)
    subst h1391
    refine g_iaddE (z := 4) (by decide) rfl ?_
    refine g_istore_n (n := 0) (lo' := []) rfl rfl ?_
    refine g_iload_n (n := 0) rfl rfl ?_
    refine g_iload_n (n := 0) rfl rfl ?_
    refine g_bipush (by decide) rfl ?_
    refine g_iushr rfl ?_
    intro z1392 h1393 h1394 h1395
    have h1396 : z1392 = 0 := h1393.trans (by decide)
    subst h1396
    refine g_iaddE (z := 4) (by decide) rfl ?_
    refine g_istore_n (n := 0) (lo' := []) rfl rfl ?_
    refine g_iload_n (n := 0) rfl rfl ?_
    refine g_bipush (by decide) rfl ?_
    refine g_iand rfl ?_
    intro z1397 h1398 h1399 h1400
    have h1401 : z1397 = 4 := h1398.trans (by decide)
    subst h1401
    refine g_iret rfl rfl ?_
    exact ⟨_, _, rfl, rfl, by decide, by decide, by decide⟩
  · refine g_iload_n (n := 0) rfl rfl ?_
    refine g_iload_n (n := 0) rfl rfl ?_
    refine g_iconst rfl ?_
    refine g_iushr rfl ?_
    intro z1402 h1403 h1404 h1405
    have h1406 : z1402 = 14 := h1403.trans (by decide)
    subst h1406
    refine g_ldcw (n := 265) (x := 1431655765) (by decide +kernel) (show decode cJ6_bitCount_0f7a4 4 = .ok (.ldc_w 265, 3) by decide +kernel) ?_
    refine g_iand rfl ?_
    intro z1407 h1408 h1409 h1410
    have h1411 : z1407 = 4 := h1408.trans (by decide)
    subst h1411
    refine g_isubE (z := 24) (by decide) rfl ?_
    refine g_istore_n (n := 0) (lo' := []) rfl rfl ?_
    refine g_iload_n (n := 0) rfl rfl ?_
    refine g_ldcw (n := 266) (x := 858993459) (by decide +kernel) (show decode cJ6_bitCount_0f7a4 11 = .ok (.ldc_w 266, 3) by decide +kernel) ?_
    refine g_iand rfl ?_
    intro z1412 h1413 h1414 h1415
    have h1416 : z1412 = 16 := h1413.trans (by decide)
    subst h1416
    refine g_iload_n (n := 0) rfl rfl ?_
    refine g_iconst rfl ?_
    refine g_iushr rfl ?_
    intro z1417 h1418 h1419 h1420
    have h1421 : z1417 = 6 := h1418.trans (by decide)
    subst h1421
    refine g_ldcw (n := 266) (x := 858993459) (by decide +kernel) (show decode cJ6_bitCount_0f7a4 18 = .ok (.ldc_w 266, 3) by decide +kernel) ?_
    refine g_iand rfl ?_
    intro z1422 h1423 h1424 h1425
    have h1426 : z1422 = 2 := h1423.trans (by decide)
    subst h1426
    refine g_iaddE (z := 18) (by decide) rfl ?_
    refine g_istore_n (n := 0) (lo' := []) rfl rfl ?_
    refine g_iload_n (n := 0) rfl rfl ?_
    refine g_iload_n (n := 0) rfl rfl ?_
    refine g_iconst rfl ?_
    refine g_iushr rfl ?_
    intro z1427 h1428 h1429 h1430
    have h1431 : z1427 = 1 := h1428.trans (by decide)
    subst h1431
    refine g_iaddE (z := 19) (by decide) rfl ?_
    refine g_ldcw (n := 267) (x := 252645135) (by decide +kernel) (show decode cJ6_bitCount_0f7a4 29 = .ok (.ldc_w 267, 3) by decide +kernel) ?_
    refine g_iand rfl ?_
    intro z1432 h1433 h1434 h1435
    have h1436 : z1432 = 3 := h1433.trans (by decide)
    subst h1436
    refine g_istore_n (n := 0) (lo' := []) rfl rfl ?_
    refine g_iload_n (n := 0) rfl rfl ?_
    refine g_iload_n (n := 0) rfl rfl ?_
    refine g_bipush (by decide) rfl ?_
    refine g_iushr rfl ?_
    intro z1437 h1438 h1439 h1440
    have h1441 : z1437 = 0 := h1438.trans (by decide)
    subst h1441
    refine g_iaddE (z := 3) (by decide) rfl ?_
    refine g_istore_n (n := 0) (lo' := []) rfl rfl ?_
    refine g_iload_n (n := 0) rfl rfl ?_
    refine g_iload_n (n := 0) rfl rfl ?_
    refine g_bipush (by decide) rfl ?_
    refine g_iushr rfl ?_
    intro z1442 h1443 h1444 h1445
    have h1446 : z1442 = 0 := h1443.trans (by decide)
    subst h1446
    refine g_iaddE (z := 3) (by decide) rfl ?_
    refine g_istore_n (n := 0) (lo' := []) rfl rfl ?_
    refine g_iload_n (n := 0) rfl rfl ?_
    refine g_bipush (by decide) rfl ?_
    refine g_iand rfl ?_
    intro z1447 h1448 h1449 h1450
    have h1451 : z1447 = 3 := h1448.trans (by decide)
    subst h1451
    refine g_iret rfl rfl ?_
    exact ⟨_, _, rfl, rfl, by decide, by decide, by decide⟩
  · refine g_iload_n (n := 0) rfl rfl ?_
    refine g_iload_n (n := 0) rfl rfl ?_
    refine g_iconst rfl ?_
    refine g_iushr rfl ?_
    intro z1452 h1453 h1454 h1455
    have h1456 : z1452 = 14 := h1453.trans (by decide)
    subst h1456
    refine g_ldcw (n := 265) (x := 1431655765) (by decide +kernel) (show decode cJ6_bitCount_0f7a4 4 = .ok (.ldc_w 265, 3) by decide +kernel) ?_
    refine g_iand rfl ?_
    intro z1457 h1458 h1459 h1460
    have h1461 : z1457 = 4 := h1458.trans (by decide)
    subst h1461
    refine g_isubE (z := 25) (by decide) rfl ?_
    refine g_istore_n (n := 0) (lo' := []) rfl rfl ?_
    refine g_iload_n (n := 0) rfl rfl ?_
    refine g_ldcw (n := 266) (x := 858993459) (by decide +kernel) (show decode cJ6_bitCount_0f7a4 11 = .ok (.ldc_w 266, 3) by decide +kernel) ?_
    refine g_iand rfl ?_
    intro z1462 h1463 h1464 h1465
    have h1466 : z1462 = 17 := h1463.trans (by decide)
    subst h1466
    refine g_iload_n (n := 0) rfl rfl ?_
    refine g_iconst rfl ?_
    refine g_iushr rfl ?_
    intro z1467 h1468 h1469 h1470
    have h1471 : z1467 = 6 := h1468.trans (by decide)
    subst h1471
    refine g_ldcw (n := 266) (x := 858993459) (by decide +kernel) (show decode cJ6_bitCount_0f7a4 18 = .ok (.ldc_w 266, 3) by decide +kernel) ?_
    refine g_iand rfl ?_
    intro z1472 h1473 h1474 h1475
    have h1476 : z1472 = 2 := h1473.trans (by decide)
    subst h1476
    refine g_iaddE (z := 19) (by decide) rfl ?_
    refine g_istore_n (n := 0) (lo' := []) rfl rfl ?_
    refine g_iload_n (n := 0) rfl rfl ?_
    refine g_iload_n (n := 0) rfl rfl ?_
    refine g_iconst rfl ?_
    refine g_iushr rfl ?_
    intro z1477 h1478 h1479 h1480
    have h1481 : z1477 = 1 := h1478.trans (by decide)
    subst h1481
    refine g_iaddE (z := 20) (by decide) rfl ?_
    refine g_ldcw (n := 267) (x := 252645135) (by decide +kernel) (show decode cJ6_bitCount_0f7a4 29 = .ok (.ldc_w 267, 3) by decide +kernel) ?_
    refine g_iand rfl ?_
    intro z1482 h1483 h1484 h1485
    have h1486 : z1482 = 4 := h1483.trans (by decide)
    subst h1486
    refine g_istore_n (n := 0) (lo' := []) rfl rfl ?_
    refine g_iload_n (n := 0) rfl rfl ?_
    refine g_iload_n (n := 0) rfl rfl ?_
    refine g_bipush (by decide) rfl ?_
    refine g_iushr rfl ?_
    intro z1487 h1488 h1489 h1490
    have h1491 : z1487 = 0 := h1488.trans (by decide)
    subst h1491
    refine g_iaddE (z := 4) (by decide) rfl ?_
    refine g_istore_n (n := 0) (lo' := []) rfl rfl ?_
    refine g_iload_n (n := 0) rfl rfl ?_
    refine g_iload_n (n := 0) rfl rfl ?_
    refine g_bipush (by decide) rfl ?_
    refine g_iushr rfl ?_
    intro z1492 h1493 h1494 h1495
    have h1496 : z1492 = 0 := h1493.trans (by decide)
    subst h1496
    refine g_iaddE (z := 4) (by decide) rfl ?_
    refine g_istore_n (n := 0) (lo' := []) rfl rfl ?_
    refine g_iload_n (n := 0) rfl rfl ?_
    refine g_bipush (by decide) rfl ?_
    refine g_iand rfl ?_
    intro z1497 h1498 h1499 h1500
    have h1501 : z1497 = 4 := h1498.trans (by decide)
    subst h1501
    refine g_iret rfl rfl ?_
    exact ⟨_, _, rfl, rfl, by decide, by decide, by decide⟩
  · refine g_iload_n (n := 0) rfl rfl ?_
    refine g_iload_n (n := 0) rfl rfl ?_
    refine g_iconst rfl ?_
    refine g_iushr rfl ?_
    intro z1502 h1503 h1504 h1505
    have h1506 : z1502 = 15 := h1503.trans (by decide)
    subst h1506
    refine g_ldcw (n := 265) (x := 1431655765) (by decide +kernel) (show decode cJ6_bitCount_0f7a4 4 = .ok (.ldc_w 265, 3) by decide +kernel) ?_
    refine g_iand rfl ?_
    intro z1507 h1508 h1509 h1510
    have h1511 : z1507 = 5 := h1508.trans (by decide)
    subst h1511
    refine g_isubE (z := 25) (by decide) rfl ?_
    refine g_istore_n (n := 0) (lo' := []) rfl rfl ?_
    refine g_iload_n (n := 0) rfl rfl ?_
    refine g_ldcw (n := 266) (x := 858993459) (by decide +kernel) (show decode cJ6_bitCount_0f7a4 11 = .ok (.ldc_w 266, 3) by decide +kernel) ?_
    refine g_iand rfl ?_
    intro z1512 h1513 h1514 h1515
    have h1516 : z1512 = 17 := h1513.trans (by decide)
    subst h1516
    refine g_iload_n (n := 0) rfl rfl ?_
    refine g_iconst rfl ?_
    refine g_iushr rfl ?_
    intro z1517 h1518 h1519 h1520
    have h1521 : z1517 = 6 := h1518.trans (by decide)
    subst h1521
    refine g_ldcw (n := 266) (x := 858993459) (by decide +kernel) (show decode cJ6_bitCount_0f7a4 18 = .ok (.ldc_w 266, 3) by decide +kernel) ?_
    refine g_iand rfl ?_
    intro z1522 h1523 h1524 h1525
    have h1526 : z1522 = 2 := h1523.trans (by decide)
    subst h1526
    refine g_iaddE (z := 19) (by decide) rfl ?_
    refine g_istore_n (n := 0) (lo' := []) rfl rfl ?_
    refine g_iload_n (n := 0) rfl rfl ?_
    refine g_iload_n (n := 0) rfl rfl ?_
    refine g_iconst rfl ?_
    refine g_iushr rfl ?_
    intro z1527 h1528 h1529 h1530
    have h1531 : z1527 = 1 := h1528.trans (by decide)
    subst h1531
    refine g_iaddE (z := 20) (by decide) rfl ?_
    refine g_ldcw (n := 267) (x := 252645135) (by decide +kernel) (show decode cJ6_bitCount_0f7a4 29 = .ok (.ldc_w 267, 3) by decide +kernel) ?_
    refine g_iand rfl ?_
    intro z1532 h1533 h1534 h1535
    have h1536 : z1532 = 4 := h1533.trans (by decide)
    subst h1536
    refine g_istore_n (n := 0) (lo' := []) rfl rfl ?_
    refine g_iload_n (n := 0) rfl rfl ?_
    refine g_iload_n (n := 0) rfl rfl ?_
    refine g_bipush (by decide) rfl ?_
    refine g_iushr rfl ?_
    intro z1537 h1538 h1539 h1540
    have h1541 : z1537 = 0 := h1538.trans (by decide)
    subst h1541
    refine g_iaddE (z := 4) (by decide) rfl ?_
    refine g_istore_n (n := 0) (lo' := []) rfl rfl ?_
    refine g_iload_n (n := 0) rfl rfl ?_
    refine g_iload_n (n := 0) rfl rfl ?_
    refine g_bipush (by decide) rfl ?_
    refine g_iushr rfl ?_
    intro z1542 h1543 h1544 h1545
    have h1546 : z1542 = 0 := h1543.trans (by decide)
    subst h1546
    refine g_iaddE (z := 4) (by decide) rfl ?_
    refine g_istore_n (n := 0) (lo' := []) rfl rfl ?_
    refine g_iload_n (n := 0) rfl rfl ?_
    refine g_bipush (by decide) rfl ?_
    refine g_iand rfl ?_
    intro z1547 h1548 h1549 h1550
    have h1551 : z1547 = 4 := h1548.trans (by decide)
    subst h1551
    refine g_iret rfl rfl ?_
    exact ⟨_, _, rfl, rfl, by decide, by decide, by decide⟩
  · refine g_iload_n (n := 0) rfl rfl ?_
    refine g_iload_n (n := 0) rfl rfl ?_
    refine g_iconst rfl ?_
    refine g_iushr rfl ?_
    intro z1552 h1553 h1554 h1555
    have h1556 : z1552 = 15 := h1553.trans (by decide)
    subst h1556
    refine g_ldcw (n := 265) (x := 1431655765) (by decide +kernel) (show decode cJ6_bitCount_0f7a4 4 = .ok (.ldc_w 265, 3) by decide +kernel) ?_
    refine g_iand rfl ?_
    intro z1557 h1558 h1559 h1560
    have h1561 : z1557 = 5 := h1558.trans (by decide)
    subst h1561
    refine g_isubE (z := 26) (by decide) rfl ?_
    refine g_istore_n (n := 0) (lo' := []) rfl rfl ?_
    refine g_iload_n (n := 0) rfl rfl ?_
    refine g_ldcw (n := 266) (x := 858993459) (by decide +kernel) (show decode cJ6_bitCount_0f7a4 11 = .ok (.ldc_w 266, 3) by decide +kernel) ?_
    refine g_iand rfl ?_
    intro z1562 h1563 h1564 h1565
    have h1566 : z1562 = 18 := h1563.trans (by decide)
    subst h1566
    refine g_iload_n (n := 0) rfl rfl ?_
    refine g_iconst rfl ?_
    refine g_iushr rfl ?_
    intro z1567 h1568 h1569 h1570
    have h1571 : z1567 = 6 := h1568.trans (by decide)
    subst h1571
    refine g_ldcw (n := 266) (x := 858993459) (by decide +kernel) (show decode cJ6_bitCount_0f7a4 18 = .ok (.ldc_w 266, 3) by decide +kernel) ?_
    refine g_iand rfl ?_
    intro z1572 h1573 h1574 h1575
    have h1576 : z1572 = 2 := h1573.trans (by decide)
    subst h1576
    refine g_iaddE (z := 20) (by decide) rfl ?_
    refine g_istore_n (n := 0) (lo' := []) rfl rfl ?_
    refine g_iload_n (n := 0) rfl rfl ?_
    refine g_iload_n (n := 0) rfl rfl ?_
    refine g_iconst rfl ?_
    refine g_iushr rfl ?_
    intro z1577 h1578 h1579 h1580
    have h1581 : z1577 = 1 := h1578.trans (by decide)
    subst h1581
    refine g_iaddE (z := 21) (by decide) rfl ?_
    refine g_ldcw (n := 267) (x := 252645135) (by decide +kernel) (show decode cJ6_bitCount_0f7a4 29 = .ok (.ldc_w 267, 3) by decide +kernel) ?_
    refine g_iand rfl ?_
    intro z1582 h1583 h1584 h1585
    have h1586 : z1582 = 5 := h1583.trans (by decide)
    subst h1586
    refine g_istore_n (n := 0) (lo' := []) rfl rfl ?_
    refine g_iload_n (n := 0) rfl rfl ?_
    refine g_iload_n (n := 0) rfl rfl ?_
    refine g_bipush (by decide) rfl ?_
    refine g_iushr rfl ?_
    intro z1587 h1588 h1589 h1590
    have h1591 : z1587 = 0 := h1588.trans (by decide)
    subst h1591
    refine g_iaddE (z := 5) (by decide) rfl ?_
    refine g_istore_n (n := 0) (lo' := []) rfl rfl ?_
    refine g_iload_n (n := 0) rfl rfl ?_
    refine g_iload_n (n := 0) rfl rfl ?_
    refine g_bipush (by decide) rfl ?_
    refine g_iushr rfl ?_
    intro z1592 h1593 h1594 h1595
    have h1596 : z1592 = 0 := h1593.trans (by decide)
    subst h1596
    refine g_iaddE (z := 5) (by decide) rfl ?_
    refine g_istore_n (n := 0) (lo' := []) rfl rfl ?_
    refine g_iload_n (n := 0) rfl rfl ?_
    refine g_bipush (by decide) rfl ?_
    refine g_iand rfl ?_
    intro z1597 h1598 h1599 h1600
    have h1601 : z1597 = 5 := h1598.trans (by decide)
    subst h1601
    refine g_iret rfl rfl ?_
    exact ⟨_, _, rfl, rfl, by decide, by decide, by decide⟩
  · refine g_iload_n (n := 0) rfl rfl ?_
    refine g_iload_n (n := 0) rfl rfl ?_
    refine g_iconst rfl ?_
    refine g_iushr rfl ?_
    intro z1602 h1603 h1604 h1605
    have h1606 : z1602 = 16 := h1603.trans (by decide)
    subst h1606
    refine g_ldcw (n := 265) (x := 1431655765) (by decide +kernel) (show decode cJ6_bitCount_0f7a4 4 = .ok (.ldc_w 265, 3) by decide +kernel) ?_
    refine g_iand rfl ?_
    intro z1607 h1608 h1609 h1610
    have h1611 : z1607 = 16 := h1608.trans (by decide)
    subst h1611
    refine g_isubE (z := 16) (by decide) rfl ?_
    refine g_istore_n (n := 0) (lo' := []) rfl rfl ?_
    refine g_iload_n (n := 0) rfl rfl ?_
    refine g_ldcw (n := 266) (x := 858993459) (by decide +kernel) (show decode cJ6_bitCount_0f7a4 11 = .ok (.ldc_w 266, 3) by decide +kernel) ?_
    refine g_iand rfl ?_
    intro z1612 h1613 h1614 h1615
    have h1616 : z1612 = 16 := h1613.trans (by decide)
    subst h1616
    refine g_iload_n (n := 0) rfl rfl ?_
    refine g_iconst rfl ?_
    refine g_iushr rfl ?_
    intro z1617 h1618 h1619 h1620
    have h1621 : z1617 = 4 := h1618.trans (by decide)
    subst h1621
    refine g_ldcw (n := 266) (x := 858993459) (by decide +kernel) (show decode cJ6_bitCount_0f7a4 18 = .ok (.ldc_w 266, 3) by decide +kernel) ?_
    refine g_iand rfl ?_
    intro z1622 h1623 h1624 h1625
    have h1626 : z1622 = 0 := h1623.trans (by decide)
    subst h1626
    refine g_iaddE (z := 16) (by decide) rfl ?_
    refine g_istore_n (n := 0) (lo' := []) rfl rfl ?_
    refine g_iload_n (n := 0) rfl rfl ?_
    refine g_iload_n (n := 0) rfl rfl ?_
    refine g_iconst rfl ?_
    refine g_iushr rfl ?_
    intro z1627 h1628 h1629 h1630
    have h1631 : z1627 = 1 := h1628.trans (by decide)
    subst h1631
    refine g_iaddE (z := 17) (by decide) rfl ?_
    refine g_ldcw (n := 267) (x := 252645135) (by decide +kernel) (show decode cJ6_bitCount_0f7a4 29 = .ok (.ldc_w 267, 3) by decide +kernel) ?_
    refine g_iand rfl ?_
    intro z1632 h1633 h1634 h1635
    have h1636 : z1632 = 1 := h1633.trans (by decide)
    subst h1636
    refine g_istore_n (n := 0) (lo' := []) rfl rfl ?_
    refine g_iload_n (n := 0) rfl rfl ?_
    refine g_iload_n (n := 0) rfl rfl ?_
    refine g_bipush (by decide) rfl ?_
    refine g_iushr rfl ?_
    intro z1637 h1638 h1639 h1640
    have h1641 : z1637 = 0 := h1638.trans (by decide)
    subst h1641
    refine g_iaddE (z := 1) (by decide) rfl ?_
    refine g_istore_n (n := 0) (lo' := []) rfl rfl ?_
    refine g_iload_n (n := 0) rfl rfl ?_
    refine g_iload_n (n := 0) rfl rfl ?_
    refine g_bipush (by decide) rfl ?_
    refine g_iushr rfl ?_
    intro z1642 h1643 h1644 h1645
    have h1646 : z1642 = 0 := h1643.trans (by decide)
    subst h1646
    refine g_iaddE (z := 1) (by decide) rfl ?_
    refine g_istore_n (n := 0) (lo' := []) rfl rfl ?_
    refine g_iload_n (n := 0) rfl rfl ?_
    refine g_bipush (by decide) rfl ?_
    refine g_iand rfl ?_
    intro z1647 h1648 h1649 h1650
    have h1651 : z1647 = 1 := h1648.trans (by decide)
    subst h1651
    refine g_iret rfl rfl ?_
    exact ⟨_, _, rfl, rfl, by decide, by decide, by decide⟩
  · refine g_iload_n (n := 0) rfl rfl ?_
    refine g_iload_n (n := 0) rfl rfl ?_
    refine g_iconst rfl ?_
    refine g_iushr rfl ?_
    intro z1652 h1653 h1654 h1655
    have h1656 : z1652 = 16 := h1653.trans (by decide)
    subst h1656
    refine g_ldcw (n := 265) (x := 1431655765) (by decide +kernel) (show decode cJ6_bitCount_0f7a4 4 = .ok (.ldc_w 265, 3) by decide +kernel) ?_
    refine g_iand rfl ?_
    intro z1657 h1658 h1659 h1660
    have h1661 : z1657 = 16 := h1658.trans (by decide)
    subst h1661
    refine g_isubE (z := 17) (by decide) rfl ?_
    refine g_istore_n (n := 0) (lo' := []) rfl rfl ?_
    refine g_iload_n (n := 0) rfl rfl ?_
    refine g_ldcw (n := 266) (x := 858993459) (by decide +kernel) (show decode cJ6_bitCount_0f7a4 11 = .ok (.ldc_w 266, 3) by decide +kernel) ?_
    refine g_iand rfl ?_
    intro z1662 h1663 h1664 h1665
    have h1666 : z1662 = 17 := h1663.trans (by decide)
    subst h1666
    refine g_iload_n (n := 0) rfl rfl ?_
    refine g_iconst rfl ?_
    refine g_iushr rfl ?_
    intro z1667 h1668 h1669 h1670
    have h1671 : z1667 = 4 := h1668.trans (by decide)
    subst h1671
    refine g_ldcw (n := 266) (x := 858993459) (by decide +kernel) (show decode cJ6_bitCount_0f7a4 18 = .ok (.ldc_w 266, 3) by decide +kernel) ?_
    refine g_iand rfl ?_
    intro z1672 h1673 h1674 h1675
    have h1676 : z1672 = 0 := h1673.trans (by decide)
    subst h1676
    refine g_iaddE (z := 17) (by decide) rfl ?_
    refine g_istore_n (n := 0) (lo' := []) rfl rfl ?_
    refine g_iload_n (n := 0) rfl rfl ?_
    refine g_iload_n (n := 0) rfl rfl ?_
    refine g_iconst rfl ?_
    refine g_iushr rfl ?_
    intro z1677 h1678 h1679 h1680
    have h1681 : z1677 = 1 := h1678.trans (by decide)
    subst h1681
    refine g_iaddE (z := 18) (by decide) rfl ?_
    refine g_ldcw (n := 267) (x := 252645135) (by decide +kernel) (show decode cJ6_bitCount_0f7a4 29 = .ok (.ldc_w 267, 3) by decide +kernel) ?_
    refine g_iand rfl ?_
    intro z1682 h1683 h1684 h1685
    have h1686 : z1682 = 2 := h1683.trans (by decide)
    subst h1686
    refine g_istore_n (n := 0) (lo' := []) rfl rfl ?_
    refine g_iload_n (n := 0) rfl rfl ?_
    refine g_iload_n (n := 0) rfl rfl ?_
    refine g_bipush (by decide) rfl ?_
    refine g_iushr rfl ?_
    intro z1687 h1688 h1689 h1690
    have h1691 : z1687 = 0 := h1688.trans (by decide)
    subst h1691
    refine g_iaddE (z := 2) (by decide) rfl ?_
    refine g_istore_n (n := 0) (lo' := []) rfl rfl ?_
    refine g_iload_n (n := 0) rfl rfl ?_
    refine g_iload_n (n := 0) rfl rfl ?_
    refine g_bipush (by decide) rfl ?_
    refine g_iushr rfl ?_
    intro z1692 h1693 h1694 h1695
    have h1696 : z1692 = 0 := h1693.trans (by decide)
    subst h1696
    refine g_iaddE (z := 2) (by decide) rfl ?_
    refine g_istore_n (n := 0) (lo' := []) rfl rfl ?_
    refine g_iload_n (n := 0) rfl rfl ?_
    refine g_bipush (by decide) rfl ?_
    refine g_iand rfl ?_
    intro z1697 h1698 h1699 h1700
    have h1701 : z1697 = 2 := h1698.trans (by decide)
    subst h1701
    refine g_iret rfl rfl ?_
    exact ⟨_, _, rfl, rfl, by decide, by decide, by decide⟩
  · refine g_iload_n (n := 0) rfl rfl ?_
    refine g_iload_n (n := 0) rfl rfl ?_
    refine g_iconst rfl ?_
    refine g_iushr rfl ?_
    intro z1702 h1703 h1704 h1705
    have h1706 : z1702 = 17 := h1703.trans (by decide)
    subst h1706
    refine g_ldcw (n := 265) (x := 1431655765) (by decide +kernel) (show decode cJ6_bitCount_0f7a4 4 = .ok (.ldc_w 265, 3) by decide +kernel) ?_
    refine g_iand rfl ?_
    intro z1707 h1708 h1709 h1710
    have h1711 : z1707 = 17 := h1708.trans (by decide)
    subst h1711
    refine g_isubE (z := 17) (by decide) rfl ?_
    refine g_istore_n (n := 0) (lo' := []) rfl rfl ?_
    refine g_iload_n (n := 0) rfl rfl ?_
    refine g_ldcw (n := 266) (x := 858993459) (by decide +kernel) (show decode cJ6_bitCount_0f7a4 11 = .ok (.ldc_w 266, 3) by decide +kernel) ?_
    refine g_iand rfl ?_
    intro z1712 h1713 h1714 h1715
    have h1716 : z1712 = 17 := h1713.trans (by decide)
    subst h1716
    refine g_iload_n (n := 0) rfl rfl ?_
    refine g_iconst rfl ?_
    refine g_iushr rfl ?_
    intro z1717 h1718 h1719 h1720
    have h1721 : z1717 = 4 := h1718.trans (by decide)
    subst h1721
    refine g_ldcw (n := 266) (x := 858993459) (by decide +kernel) (show decode cJ6_bitCount_0f7a4 18 = .ok (.ldc_w 266, 3) by decide +kernel) ?_
    refine g_iand rfl ?_
    intro z1722 h1723 h1724 h1725
    have h1726 : z1722 = 0 := h1723.trans (by decide)
    subst h1726
    refine g_iaddE (z := 17) (by decide) rfl ?_
    refine g_istore_n (n := 0) (lo' := []) rfl rfl ?_
    refine g_iload_n (n := 0) rfl rfl ?_
    refine g_iload_n (n := 0) rfl rfl ?_
    refine g_iconst rfl ?_
    refine g_iushr rfl ?_
    intro z1727 h1728 h1729 h1730
    have h1731 : z1727 = 1 := h1728.trans (by decide)
    subst h1731
    refine g_iaddE (z := 18) (by decide) rfl ?_
    refine g_ldcw (n := 267) (x := 252645135) (by decide +kernel) (show decode cJ6_bitCount_0f7a4 29 = .ok (.ldc_w 267, 3) by decide +kernel) ?_
    refine g_iand rfl ?_
    intro z1732 h1733 h1734 h1735
    have h1736 : z1732 = 2 := h1733.trans (by decide)
    subst h1736
    refine g_istore_n (n := 0) (lo' := []) rfl rfl ?_
    refine g_iload_n (n := 0) rfl rfl ?_
    refine g_iload_n (n := 0) rfl rfl ?_
    refine g_bipush (by decide) rfl ?_
    refine g_iushr rfl ?_
    intro z1737 h1738 h1739 h1740
    have h1741 : z1737 = 0 := h1738.trans (by decide)
    subst h1741
    refine g_iaddE (z := 2) (by decide) rfl ?_
    refine g_istore_n (n := 0) (lo' := []) rfl rfl ?_
    refine g_iload_n (n := 0) rfl rfl ?_
    refine g_iload_n (n := 0) rfl rfl ?_
    refine g_bipush (by decide) rfl ?_
    refine g_iushr rfl ?_
    intro z1742 h1743 h1744 h1745
    have h1746 : z1742 = 0 := h1743.trans (by decide)
    subst h1746
    refine g_iaddE (z := 2) (by decide) rfl ?_
    refine g_istore_n (n := 0) (lo' := []) rfl rfl ?_
    refine g_iload_n (n := 0) rfl rfl ?_
    refine g_bipush (by decide) rfl ?_
    refine g_iand rfl ?_
    intro z1747 h1748 h1749 h1750
    have h1751 : z1747 = 2 := h1748.trans (by decide)
    subst h1751
    refine g_iret rfl rfl ?_
    exact ⟨_, _, rfl, rfl, by decide, by decide, by decide⟩
  · refine g_iload_n (n := 0) rfl rfl ?_
    refine g_iload_n (n := 0) rfl rfl ?_
    refine g_iconst rfl ?_
    refine g_iushr rfl ?_
    intro z1752 h1753 h1754 h1755
    have h1756 : z1752 = 17 := h1753.trans (by decide)
    subst h1756
    refine g_ldcw (n := 265) (x := 1431655765) (by decide +kernel) (show decode cJ6_bitCount_0f7a4 4 = .ok (.ldc_w 265, 3) by decide +kernel) ?_
    refine g_iand rfl ?_
    intro z1757 h1758 h1759 h1760
    have h1761 : z1757 = 17 := h1758.trans (by decide)
    subst h1761
    refine g_isubE (z := 18) (by decide) rfl ?_
    refine g_istore_n (n := 0) (lo' := []) rfl rfl ?_
    refine g_iload_n (n := 0) rfl rfl ?_
    refine g_ldcw (n := 266) (x := 858993459) (by decide +kernel) (show decode cJ6_bitCount_0f7a4 11 = .ok (.ldc_w 266, 3) by decide +kernel) ?_
    refine g_iand rfl ?_
    intro z1762 h1763 h1764 h1765
    have h1766 : z1762 = 18 := h1763.trans (by decide)
    subst h1766
    refine g_iload_n (n := 0) rfl rfl ?_
    refine g_iconst rfl ?_
    refine g_iushr rfl ?_
    intro z1767 h1768 h1769 h1770
    have h1771 : z1767 = 4 := h1768.trans (by decide)
    subst h1771
    refine g_ldcw (n := 266) (x := 858993459) (by decide +kernel) (show decode cJ6_bitCount_0f7a4 18 = .ok (.ldc_w 266, 3) by decide +kernel) ?_
    refine g_iand rfl ?_
    intro z1772 h1773 h1774 h1775
    have h1776 : z1772 = 0 := h1773.trans (by decide)
    subst h1776
    refine g_iaddE (z := 18) (by decide) rfl ?_
    refine g_istore_n (n := 0) (lo' := []) rfl rfl ?_
    refine g_iload_n (n := 0) rfl rfl ?_
    refine g_iload_n (n := 0) rfl rfl ?_
    refine g_iconst rfl ?_
    refine g_iushr rfl ?_
    intro z1777 h1778 h1779 h1780
    have h1781 : z1777 = 1 := h1778.trans (by decide)
    subst h1781
    refine g_iaddE (z := 19) (by decide) rfl ?_
    refine g_ldcw (n := 267) (x := 252645135) (by decide +kernel) (show decode cJ6_bitCount_0f7a4 29 = .ok (.ldc_w 267, 3) by decide +kernel) ?_
    refine g_iand rfl ?_
    intro z1782 h1783 h1784 h1785
    have h1786 : z1782 = 3 := h1783.trans (by decide)
    subst h1786
    refine g_istore_n (n := 0) (lo' := []) rfl rfl ?_
    refine g_iload_n (n := 0) rfl rfl ?_
    refine g_iload_n (n := 0) rfl rfl ?_
    refine g_bipush (by decide) rfl ?_
    refine g_iushr rfl ?_
    intro z1787 h1788 h1789 h1790
    have h1791 : z1787 = 0 := h1788.trans (by decide)
    subst h1791
    refine g_iaddE (z := 3) (by decide) rfl ?_
    refine g_istore_n (n := 0) (lo' := []) rfl rfl ?_
    refine g_iload_n (n := 0) rfl rfl ?_
    refine g_iload_n (n := 0) rfl rfl ?_
    refine g_bipush (by decide) rfl ?_
    refine g_iushr rfl ?_
    intro z1792 h1793 h1794 h1795
    have h1796 : z1792 = 0 := h1793.trans (by decide)
    subst h1796
    refine g_iaddE (z := 3) (by decide) rfl ?_
    refine g_istore_n (n := 0) (lo' := []) rfl rfl ?_
    refine g_iload_n (n := 0) rfl rfl ?_
    refine g_bipush (by decide) rfl ?_
    refine g_iand rfl ?_
    intro z1797 h1798 h1799 h1800
    have h1801 : z1797 = 3 := h1798.trans (by decide)
    subst h1801
    refine g_iret rfl rfl ?_
    exact ⟨_, _, rfl, rfl, by decide, by decide, by decide⟩
  · refine g_iload_n (n := 0) rfl rfl ?_
    refine g_iload_n (n := 0) rfl rfl ?_
    refine g_iconst rfl ?_
    refine g_iushr rfl ?_
    intro z1802 h1803 h1804 h1805
    have h1806 : z1802 = 18 := h1803.trans (by decide)
    subst h1806
    refine g_ldcw (n := 265) (x := 1431655765) (by decide +kernel) (show decode cJ6_bitCount_0f7a4 4 = .ok (.ldc_w 265, 3) by decide +kernel) ?_
    refine g_iand rfl ?_
    intro z1807 h1808 h1809 h1810
    have h1811 : z1807 = 16 := h1808.trans (by decide)
    subst h1811
    refine g_isubE (z := 20) (by decide) rfl ?_
    refine g_istore_n (n := 0) (lo' := []) rfl rfl ?_
    refine g_iload_n (n := 0) rfl rfl ?_
    refine g_ldcw (n := 266) (x := 858993459) (by decide +kernel) (show decode cJ6_bitCount_0f7a4 11 = .ok (.ldc_w 266, 3) by decide +kernel) ?_
    refine g_iand rfl ?_
    intro z1812 h1813 h1814 h1815
    have h1816 : z1812 = 16 := h1813.trans (by decide)
    subst h1816
    refine g_iload_n (n := 0) rfl rfl ?_
    refine g_iconst rfl ?_
    refine g_iushr rfl ?_
    intro z1817 h1818 h1819 h1820
    have h1821 : z1817 = 5 := h1818.trans (by decide)
    subst h1821
    refine g_ldcw (n := 266) (x := 858993459) (by decide +kernel) (show decode cJ6_bitCount_0f7a4 18 = .ok (.ldc_w 266, 3) by decide +kernel) ?_
    refine g_iand rfl ?_
    intro z1822 h1823 h1824 h1825
    have h1826 : z1822 = 1 := h1823.trans (by decide)
    subst h1826
    refine g_iaddE (z := 17) (by decide) rfl ?_
    refine g_istore_n (n := 0) (lo' := []) rfl rfl ?_
    refine g_iload_n (n := 0) rfl rfl ?_
    refine g_iload_n (n := 0) rfl rfl ?_
    refine g_iconst rfl ?_
    refine g_iushr rfl ?_
    intro z1827 h1828 h1829 h1830
    have h1831 : z1827 = 1 := h1828.trans (by decide)
    subst h1831
    refine g_iaddE (z := 18) (by decide) rfl ?_
    refine g_ldcw (n := 267) (x := 252645135) (by decide +kernel) (show decode cJ6_bitCount_0f7a4 29 = .ok (.ldc_w 267, 3) by decide +kernel) ?_
    refine g_iand rfl ?_
    intro z1832 h1833 h1834 h1835
    have h1836 : z1832 = 2 := h1833.trans (by decide)
    subst h1836
    refine g_istore_n (n := 0) (lo' := []) rfl rfl ?_
    refine g_iload_n (n := 0) rfl rfl ?_
    refine g_iload_n (n := 0) rfl rfl ?_
    refine g_bipush (by decide) rfl ?_
    refine g_iushr rfl ?_
    intro z1837 h1838 h1839 h1840
    have h1841 : z1837 = 0 := h1838.trans (by decide)
    subst h1841
    refine g_iaddE (z := 2) (by decide) rfl ?_
    refine g_istore_n (n := 0) (lo' := []) rfl rfl ?_
    refine g_iload_n (n := 0) rfl rfl ?_
    refine g_iload_n (n := 0) rfl rfl ?_
    refine g_bipush (by decide) rfl ?_
    refine g_iushr rfl ?_
    intro z1842 h1843 h1844 h1845
    have h1846 : z1842 = 0 := h1843.trans (by decide)
    subst h1846
    refine g_iaddE (z := 2) (by decide) rfl ?_
    refine g_istore_n (n := 0) (lo' := []) rfl rfl ?_
    refine g_iload_n (n := 0) rfl rfl ?_
    refine g_bipush (by decide) rfl ?_
    refine g_iand rfl ?_
    intro z1847 h1848 h1849 h1850
    have h1851 : z1847 = 2 := h1848.trans (by decide)
    subst h1851
    refine g_iret rfl rfl ?_
    exact ⟨_, _, rfl, rfl, by decide, by decide, by decide⟩
  · refine g_iload_n (n := 0) rfl rfl ?_
    refine g_iload_n (n := 0) rfl rfl ?_
    refine g_iconst rfl ?_
    refine g_iushr rfl ?_
    intro z1852 h1853 h1854 h1855
    have h1856 : z1852 = 18 := h1853.trans (by decide)
    subst h1856
    refine g_ldcw (n := 265) (x := 1431655765) (by decide +kernel) (show decode cJ6_bitCount_0f7a4 4 = .ok (.ldc_w 265, 3) by decide +kernel) ?_
    refine g_iand rfl ?_
    intro z1857 h1858 h1859 h1860
    have h1861 : z1857 = 16 := h1858.trans (by decide)
    subst h1861
    refine g_isubE (z := 21) (by decide) rfl ?_
    refine g_istore_n (n := 0) (lo' := []) rfl rfl ?_
    refine g_iload_n (n := 0) rfl rfl ?_
    refine g_ldcw (n := 266) (x := 858993459) (by decide +kernel) (show decode cJ6_bitCount_0f7a4 11 = .ok (.ldc_w 266, 3) by decide +kernel) ?_
    refine g_iand rfl ?_
    intro z1862 h1863 h1864 h1865
    have h1866 : z1862 = 17 := h1863.trans (by decide)
    subst h1866
    refine g_iload_n (n := 0) rfl rfl ?_
    refine g_iconst rfl ?_
    refine g_iushr rfl ?_
    intro z1867 h1868 h1869 h1870
    have h1871 : z1867 = 5 := h1868.trans (by decide)
    subst h1871
    refine g_ldcw (n := 266) (x := 858993459) (by decide +kernel) (show decode cJ6_bitCount_0f7a4 18 = .ok (.ldc_w 266, 3) by decide +kernel) ?_
    refine g_iand rfl ?_
    intro z1872 h1873 h1874 h1875
    have h1876 : z1872 = 1 := h1873.trans (by decide)
    subst h1876
    refine g_iaddE (z := 18) (by decide) rfl ?_
    refine g_istore_n (n := 0) (lo' := []) rfl rfl ?_
    refine g_iload_n (n := 0) rfl rfl ?_
    refine g_iload_n (n := 0) rfl rfl ?_
    refine g_iconst rfl ?_
    refine g_iushr rfl ?_
    intro z1877 h1878 h1879 h1880
    have h1881 : z1877 = 1 := h1878.trans (by decide)
    subst h1881
    refine g_iaddE (z := 19) (by decide) rfl ?_
    refine g_ldcw (n := 267) (x := 252645135) (by decide +kernel) (show decode cJ6_bitCount_0f7a4 29 = .ok (.ldc_w 267, 3) by decide +kernel) ?_
    refine g_iand rfl ?_
    intro z1882 h1883 h1884 h1885
    have h1886 : z1882 = 3 := h1883.trans (by decide)
    subst h1886
    refine g_istore_n (n := 0) (lo' := []) rfl rfl ?_
    refine g_iload_n (n := 0) rfl rfl ?_
    refine g_iload_n (n := 0) rfl rfl ?_
    refine g_bipush (by decide) rfl ?_
    refine g_iushr rfl ?_
    intro z1887 h1888 h1889 h1890
    have h1891 : z1887 = 0 := h1888.trans (by decide)
    subst h1891
    refine g_iaddE (z := 3) (by decide) rfl ?_
    refine g_istore_n (n := 0) (lo' := []) rfl rfl ?_
    refine g_iload_n (n := 0) rfl rfl ?_
    refine g_iload_n (n := 0) rfl rfl ?_
    refine g_bipush (by decide) rfl ?_
    refine g_iushr rfl ?_
    intro z1892 h1893 h1894 h1895
    have h1896 : z1892 = 0 := h1893.trans (by decide)
    subst h1896
    refine g_iaddE (z := 3) (by decide) rfl ?_
    refine g_istore_n (n := 0) (lo' := []) rfl rfl ?_
    refine g_iload_n (n := 0) rfl rfl ?_
    refine g_bipush (by decide) rfl ?_
    refine g_iand rfl ?_
    intro z1897 h1898 h1899 h1900
    have h1901 : z1897 = 3 := h1898.trans (by decide)
    subst h1901
    refine g_iret rfl rfl ?_
    exact ⟨_, _, rfl, rfl, by decide, by decide, by decide⟩
  · refine g_iload_n (n := 0) rfl rfl ?_
    refine g_iload_n (n := 0) rfl rfl ?_
    refine g_iconst rfl ?_
    refine g_iushr rfl ?_
    intro z1902 h1903 h1904 h1905
    have h1906 : z1902 = 19 := h1903.trans (by decide)
    subst h1906
    refine g_ldcw (n := 265) (x := 1431655765) (by decide +kernel) (show decode cJ6_bitCount_0f7a4 4 = .ok (.ldc_w 265, 3) by decide +kernel) ?_
    refine g_iand rfl ?_
    intro z1907 h1908 h1909 h1910
    have h1911 : z1907 = 17 := h1908.trans (by decide)
    subst h1911
    refine g_isubE (z := 21) (by decide) rfl ?_
    refine g_istore_n (n := 0) (lo' := []) rfl rfl ?_
    refine g_iload_n (n := 0) rfl rfl ?_
    refine g_ldcw (n := 266) (x := 858993459) (by decide +kernel) (show decode cJ6_bitCount_0f7a4 11 = .ok (.ldc_w 266, 3) by decide +kernel) ?_
    refine g_iand rfl ?_
    intro z1912 h1913 h1914 h1915
    have h1916 : z1912 = 17 := h1913.trans (by decide)
    subst h1916
    refine g_iload_n (n := 0) rfl rfl ?_
    refine g_iconst rfl ?_
    refine g_iushr rfl ?_
    intro z1917 h1918 h1919 h1920
    have h1921 : z1917 = 5 := h1918.trans (by decide)
    subst h1921
    refine g_ldcw (n := 266) (x := 858993459) (by decide +kernel) (show decode cJ6_bitCount_0f7a4 18 = .ok (.ldc_w 266, 3) by decide +kernel) ?_
    refine g_iand rfl ?_
    intro z1922 h1923 h1924 h1925
    have h1926 : z1922 = 1 := h1923.trans (by decide)
    subst h1926
    refine g_iaddE (z := 18) (by decide) rfl ?_
    refine g_istore_n (n := 0) (lo' := []) rfl rfl ?_
    refine g_iload_n (n := 0) rfl rfl ?_
    refine g_iload_n (n := 0) rfl rfl ?_
    refine g_iconst rfl ?_
    refine g_iushr rfl ?_
    intro z1927 h1928 h1929 h1930
    have h1931 : z1927 = 1 := h1928.trans (by decide)
    subst h1931
    refine g_iaddE (z := 19) (by decide) rfl ?_
    refine g_ldcw (n := 267) (x := 252645135) (by decide +kernel) (show decode cJ6_bitCount_0f7a4 29 = .ok (.ldc_w 267, 3) by decide +kernel) ?_
    refine g_iand rfl ?_
    intro z1932 h1933 h1934 h1935
    have h1936 : z1932 = 3 := h1933.trans (by decide)
    subst h1936
    refine g_istore_n (n := 0) (lo' := []) rfl rfl ?_
    refine g_iload_n (n := 0) rfl rfl ?_
    refine g_iload_n (n := 0) rfl rfl ?_
    refine g_bipush (by decide) rfl ?_
    refine g_iushr rfl ?_
    intro z1937 h1938 h1939 h1940
    have h1941 : z1937 = 0 := h1938.trans (by decide)
    subst h1941
    refine g_iaddE (z := 3) (by decide) rfl ?_
    refine g_istore_n (n := 0) (lo' := []) rfl rfl ?_
    refine g_iload_n (n := 0) rfl rfl ?_
    refine g_iload_n (n := 0) rfl rfl ?_
    refine g_bipush (by decide) rfl ?_
    refine g_iushr rfl ?_
    intro z1942 h1943 h1944 h1945
    have h1946 : z1942 = 0 := h1943.trans (by decide)
    subst h1946
    refine g_iaddE (z := 3) (by decide) rfl ?_
    refine g_istore_n (n := 0) (lo' := []) rfl rfl ?_
    refine g_iload_n (n := 0) rfl rfl ?_
    refine g_bipush (by decide) rfl ?_
    refine g_iand rfl ?_
    intro z1947 h1948 h1949 h1950
    have h1951 : z1947 = 3 := h1948.trans (by decide)
    subst h1951
    refine g_iret rfl rfl ?_
    exact ⟨_, _, rfl, rfl, by decide, by decide, by decide⟩
  · refine g_iload_n (n := 0) rfl rfl ?_
    refine g_iload_n (n := 0) rfl rfl ?_
    refine g_iconst rfl ?_
    refine g_iushr rfl ?_
    intro z1952 h1953 h1954 h1955
    have h1956 : z1952 = 19 := h1953.trans (by decide)
    subst h1956
    refine g_ldcw (n := 265) (x := 1431655765) (by decide +kernel) (show decode cJ6_bitCount_0f7a4 4 = .ok (.ldc_w 265, 3) by decide +kernel) ?_
    refine g_iand rfl ?_
    intro z1957 h1958 h1959 h1960
    have h1961 : z1957 = 17 := h1958.trans (by decide)
    subst h1961
    refine g_isubE (z := 22) (by decide) rfl ?_
    refine g_istore_n (n := 0) (lo' := []) rfl rfl ?_
    refine g_iload_n (n := 0) rfl rfl ?_
    refine g_ldcw (n := 266) (x := 858993459) (by decide +kernel) (show decode cJ6_bitCount_0f7a4 11 = .ok (.ldc_w 266, 3) by decide +kernel) ?_
    refine g_iand rfl ?_
    intro z1962 h1963 h1964 h1965
    have h1966 : z1962 = 18 := h1963.trans (by decide)
    subst h1966
    refine g_iload_n (n := 0) rfl rfl ?_
    refine g_iconst rfl ?_
    refine g_iushr rfl ?_
    intro z1967 h1968 h1969 h1970
    have h1971 : z1967 = 5 := h1968.trans (by decide)
    subst h1971
    refine g_ldcw (n := 266) (x := 858993459) (by decide +kernel) (show decode cJ6_bitCount_0f7a4 18 = .ok (.ldc_w 266, 3) by decide +kernel) ?_
    refine g_iand rfl ?_
    intro z1972 h1973 h1974 h1975
    have h1976 : z1972 = 1 := h1973.trans (by decide)
    subst h1976
    refine g_iaddE (z := 19) (by decide) rfl ?_
    refine g_istore_n (n := 0) (lo' := []) rfl rfl ?_
    refine g_iload_n (n := 0) rfl rfl ?_
    refine g_iload_n (n := 0) rfl rfl ?_
    refine g_iconst rfl ?_
    refine g_iushr rfl ?_
    intro z1977 h1978 h1979 h1980
    have h1981 : z1977 = 1 := h1978.trans (by decide)
    subst h1981
    refine g_iaddE (z := 20) (by decide) rfl ?_
    refine g_ldcw (n := 267) (x := 252645135) (by decide +kernel) (show decode cJ6_bitCount_0f7a4 29 = .ok (.ldc_w 267, 3) by decide +kernel) ?_
    refine g_iand rfl ?_
    intro z1982 h1983 h1984 h1985
    have h1986 : z1982 = 4 := h1983.trans (by decide)
    subst h1986
    refine g_istore_n (n := 0) (lo' := []) rfl rfl ?_
    refine g_iload_n (n := 0) rfl rfl ?_
    refine g_iload_n (n := 0) rfl rfl ?_
    refine g_bipush (by decide) rfl ?_
    refine g_iushr rfl ?_
    intro z1987 h1988 h1989 h1990
    have h1991 : z1987 = 0 := h1988.trans (by decide)
    subst h1991
    refine g_iaddE (z := 4) (by decide) rfl ?_
    refine g_istore_n (n := 0) (lo' := []) rfl rfl ?_
    refine g_iload_n (n := 0) rfl rfl ?_
    refine g_iload_n (n := 0) rfl rfl ?_
    refine g_bipush (by decide) rfl ?_
    refine g_iushr rfl ?_
    intro z1992 h1993 h1994 h1995
    have h1996 : z1992 = 0 := h1993.trans (by decide)
    subst h1996
    refine g_iaddE (z := 4) (by decide) rfl ?_
    refine g_istore_n (n := 0) (lo' := []) rfl rfl ?_
    refine g_iload_n (n := 0) rfl rfl ?_
    refine g_bipush (by decide) rfl ?_
    refine g_iand rfl ?_
    intro z1997 h1998 h1999 h2000
    have h2001 : z1997 = 4 := h1998.trans (by decide)
    subst h2001
    refine g_iret rfl rfl ?_
    exact ⟨_, _, rfl, rfl, by decide, by decide, by decide⟩
  · refine g_iload_n (n := 0) rfl rfl ?_
    refine g_iload_n (n := 0) rfl rfl ?_
    refine g_iconst rfl ?_
    refine g_iushr rfl ?_
    intro z2002 h2003 h2004 h2005
    have h2006 : z2002 = 20 := h2003.trans (by decide)
    subst h2006
    refine g_ldcw (n := 265) (x := 1431655765) (by decide +kernel) (show decode cJ6_bitCount_0f7a4 4 = .ok (.ldc_w 265, 3) by decide +kernel) ?_
    refine g_iand rfl ?_
    intro z2007 h2008 h2009 h2010
    have h2011 : z2007 = 20 := h2008.trans (by decide)
    subst h2011
    refine g_isubE (z := 20) (by decide) rfl ?_
    refine g_istore_n (n := 0) (lo' := []) rfl rfl ?_
    refine g_iload_n (n := 0) rfl rfl ?_
    refine g_ldcw (n := 266) (x := 858993459) (by decide +kernel) (show decode cJ6_bitCount_0f7a4 11 = .ok (.ldc_w 266, 3) by decide +kernel) ?_
    refine g_iand rfl ?_
    intro z2012 h2013 h2014 h2015
    have h2016 : z2012 = 16 := h2013.trans (by decide)
    subst h2016
    refine g_iload_n (n := 0) rfl rfl ?_
    refine g_iconst rfl ?_
    refine g_iushr rfl ?_
    intro z2017 h2018 h2019 h2020
    have h2021 : z2017 = 5 := h2018.trans (by decide)
    subst h2021
    refine g_ldcw (n := 266) (x := 858993459) (by decide +kernel) (show decode cJ6_bitCount_0f7a4 18 = .ok (.ldc_w 266, 3) by decide +kernel) ?_
    refine g_iand rfl ?_
    intro z2022 h2023 h2024 h2025
    have h2026 : z2022 = 1 := h2023.trans (by decide)
    subst h2026
    refine g_iaddE (z := 17) (by decide) rfl ?_
    refine g_istore_n (n := 0) (lo' := []) rfl rfl ?_
    refine g_iload_n (n := 0) rfl rfl ?_
    refine g_iload_n (n := 0) rfl rfl ?_
    refine g_iconst rfl ?_
    refine g_iushr rfl ?_
    intro z2027 h2028 h2029 h2030
    have h2031 : z2027 = 1 := h2028.trans (by decide)
    subst h2031
    refine g_iaddE (z := 18) (by decide) rfl ?_
    refine g_ldcw (n := 267) (x := 252645135) (by decide +kernel) (show decode cJ6_bitCount_0f7a4 29 = .ok (.ldc_w 267, 3) by decide +kernel) ?_
    refine g_iand rfl ?_
    intro z2032 h2033 h2034 h2035
    have h2036 : z2032 = 2 := h2033.trans (by decide)
    subst h2036
    refine g_istore_n (n := 0) (lo' := []) rfl rfl ?_
    refine g_iload_n (n := 0) rfl rfl ?_
    refine g_iload_n (n := 0) rfl rfl ?_
    refine g_bipush (by decide) rfl ?_
    refine g_iushr rfl ?_
    intro z2037 h2038 h2039 h2040
    have h2041 : z2037 = 0 := h2038.trans (by decide)
    subst h2041
    refine g_iaddE (z := 2) (by decide) rfl ?_
    refine g_istore_n (n := 0) (lo' := []) rfl rfl ?_
    refine g_iload_n (n := 0) rfl rfl ?_
    refine g_iload_n (n := 0) rfl rfl ?_
    refine g_bipush (by decide) rfl ?_
    refine g_iushr rfl ?_
    intro z2042 h2043 h2044 h2045
    have h2046 : z2042 = 0 := h2043.trans (by decide)
    subst h2046
    refine g_iaddE (z := 2) (by decide) rfl ?_
    refine g_istore_n (n := 0) (lo' := []) rfl rfl ?_
    refine g_iload_n (n := 0) rfl rfl ?_
    refine g_bipush (by decide) rfl ?_
    refine g_iand rfl ?_
    intro z2047 h2048 h2049 h2050
    have h2051 : z2047 = 2 := h2048.trans (by decide)
    subst h2051
    refine g_iret rfl rfl ?_
    exact ⟨_, _, rfl, rfl, by decide, by decide, by decide⟩
  · refine g_iload_n (n := 0) rfl rfl ?_
    refine g_iload_n (n := 0) rfl rfl ?_
    refine g_iconst rfl ?_
    refine g_iushr rfl ?_
    intro z2052 h2053 h2054 h2055
    have h2056 : z2052 = 20 := h2053.trans (by decide)
    subst h2056
    refine g_ldcw (n := 265) (x := 1431655765) (by decide +kernel) (show decode cJ6_bitCount_0f7a4 4 = .ok (.ldc_w 265, 3) by decide +kernel) ?_
    refine g_iand rfl ?_
    intro z2057 h2058 h2059 h2060
    have h2061 : z2057 = 20 := h2058.trans (by decide)
    subst h2061
    refine g_isubE (z := 21) (by decide) rfl ?_
    refine g_istore_n (n := 0) (lo' := []) rfl rfl ?_
    refine g_iload_n (n := 0) rfl rfl ?_
    refine g_ldcw (n := 266) (x := 858993459) (by decide +kernel) (show decode cJ6_bitCount_0f7a4 11 = .ok (.ldc_w 266, 3) by decide +kernel) ?_
    refine g_iand rfl ?_
    intro z2062 h2063 h2064 h2065
    have h2066 : z2062 = 17 := h2063.trans (by decide)
    subst h2066
    refine g_iload_n (n := 0) rfl rfl ?_
    refine g_iconst rfl ?_
    refine g_iushr rfl ?_
    intro z2067 h2068 h2069 h2070
    have h2071 : z2067 = 5 := h2068.trans (by decide)
    subst h2071
    refine g_ldcw (n := 266) (x := 858993459) (by decide +kernel) (show decode cJ6_bitCount_0f7a4 18 = .ok (.ldc_w 266, 3) by decide +kernel) ?_
    refine g_iand rfl ?_
    intro z2072 h2073 h2074 h2075
    have h2076 : z2072 = 1 := h2073.trans (by decide)
    subst h2076
    refine g_iaddE (z := 18) (by decide) rfl ?_
    refine g_istore_n (n := 0) (lo' := []) rfl rfl ?_
    refine g_iload_n (n := 0) rfl rfl ?_
    refine g_iload_n (n := 0) rfl rfl ?_
    refine g_iconst rfl ?_
    refine g_iushr rfl ?_
    intro z2077 h2078 h2079 h2080
    have h2081 : z2077 = 1 := h2078.trans (by decide)
    subst h2081
    refine g_iaddE (z := 19) (by decide) rfl ?_
    refine g_ldcw (n := 267) (x := 252645135) (by decide +kernel) (show decode cJ6_bitCount_0f7a4 29 = .ok (.ldc_w 267, 3) by decide +kernel) ?_
    refine g_iand rfl ?_
    intro z2082 h2083 h2084 h2085
    have h2086 : z2082 = 3 := h2083.trans (by decide)
    subst h2086
    refine g_istore_n (n := 0) (lo' := []) rfl rfl ?_
    refine g_iload_n (n := 0) rfl rfl ?_
    refine g_iload_n (n := 0) rfl rfl ?_
    refine g_bipush (by decide) rfl ?_
    refine g_iushr rfl ?_
    intro z2087 h2088 h2089 h2090
    have h2091 : z2087 = 0 := h2088.trans (by decide)
    subst h2091
    refine g_iaddE (z := 3) (by decide) rfl ?_
    refine g_istore_n (n := 0) (lo' := []) rfl rfl ?_
    refine g_iload_n (n := 0) rfl rfl ?_
    refine g_iload_n (n := 0) rfl rfl ?_
    refine g_bipush (by decide) rfl ?_
    refine g_iushr rfl ?_
    intro z2092 h2093 h2094 h2095
    have h2096 : z2092 = 0 := h2093.trans (by decide)
    subst h2096
    refine g_iaddE (z := 3) (by decide) rfl ?_
    refine g_istore_n (n := 0) (lo' := []) rfl rfl ?_
    refine g_iload_n (n := 0) rfl rfl ?_
    refine g_bipush (by decide) rfl ?_
    refine g_iand rfl ?_
    intro z2097 h2098 h2099 h2100
    have h2101 : z2097 = 3 := h2098.trans (by decide)
    subst h2101
    refine g_iret rfl rfl ?_
    exact ⟨_, _, rfl, rfl, by decide, by decide, by decide⟩
  · refine g_iload_n (n := 0) rfl rfl ?_
    refine g_iload_n (n := 0) rfl rfl ?_
    refine g_iconst rfl ?_
    refine g_iushr rfl ?_
    intro z2102 h2103 h2104 h2105
    have h2106 : z2102 = 21 := h2103.trans (by decide)
    subst h2106
    refine g_ldcw (n := 265) (x := 1431655765) (by decide +kernel) (show decode cJ6_bitCount_0f7a4 4 = .ok (.ldc_w 265, 3) by decide +kernel) ?_
    refine g_iand rfl ?_
    intro z2107 h2108 h2109 h2110
    have h2111 : z2107 = 21 := h2108.trans (by decide)
    subst h2111
    refine g_isubE (z := 21) (by decide) rfl ?_
    refine g_istore_n (n := 0) (lo' := []) rfl rfl ?_
    refine g_iload_n (n := 0) rfl rfl ?_
    refine g_ldcw (n := 266) (x := 858993459) (by decide +kernel) (show decode cJ6_bitCount_0f7a4 11 = .ok (.ldc_w 266, 3) by decide +kernel) ?_
    refine g_iand rfl ?_
    intro z2112 h2113 h2114 h2115
    have h2116 : z2112 = 17 := h2113.trans (by decide)
    subst h2116
    refine g_iload_n (n := 0) rfl rfl ?_
    refine g_iconst rfl ?_
    refine g_iushr rfl ?_
    intro z2117 h2118 h2119 h2120
    have h2121 : z2117 = 5 := h2118.trans (by decide)
    subst h2121
    refine g_ldcw (n := 266) (x := 858993459) (by decide +kernel) (show decode cJ6_bitCount_0f7a4 18 = .ok (.ldc_w 266, 3) by decide +kernel) ?_
    refine g_iand rfl ?_
    intro z2122 h2123 h2124 h2125
    have h2126 : z2122 = 1 := h2123.trans (by decide)
    subst h2126
    refine g_iaddE (z := 18) (by decide) rfl ?_
    refine g_istore_n (n := 0) (lo' := []) rfl rfl ?_
    refine g_iload_n (n := 0) rfl rfl ?_
    refine g_iload_n (n := 0) rfl rfl ?_
    refine g_iconst rfl ?_
    refine g_iushr rfl ?_
    intro z2127 h2128 h2129 h2130
    have h2131 : z2127 = 1 := h2128.trans (by decide)
    subst h2131
    refine g_iaddE (z := 19) (by decide) rfl ?_
    refine g_ldcw (n := 267) (x := 252645135) (by decide +kernel) (show decode cJ6_bitCount_0f7a4 29 = .ok (.ldc_w 267, 3) by decide +kernel) ?_
    refine g_iand rfl ?_
    intro z2132 h2133 h2134 h2135
    have h2136 : z2132 = 3 := h2133.trans (by decide)
    subst h2136
    refine g_istore_n (n := 0) (lo' := []) rfl rfl ?_
    refine g_iload_n (n := 0) rfl rfl ?_
    refine g_iload_n (n := 0) rfl rfl ?_
    refine g_bipush (by decide) rfl ?_
    refine g_iushr rfl ?_
    intro z2137 h2138 h2139 h2140
    have h2141 : z2137 = 0 := h2138.trans (by decide)
    subst h2141
    refine g_iaddE (z := 3) (by decide) rfl ?_
    refine g_istore_n (n := 0) (lo' := []) rfl rfl ?_
    refine g_iload_n (n := 0) rfl rfl ?_
    refine g_iload_n (n := 0) rfl rfl ?_
    refine g_bipush (by decide) rfl ?_
    refine g_iushr rfl ?_
    intro z2142 h2143 h2144 h2145
    have h2146 : z2142 = 0 := h2143.trans (by decide)
    subst h2146
    refine g_iaddE (z := 3) (by decide) rfl ?_
    refine g_istore_n (n := 0) (lo' := []) rfl rfl ?_
    refine g_iload_n (n := 0) rfl rfl ?_
    refine g_bipush (by decide) rfl ?_
    refine g_iand rfl ?_
    intro z2147 h2148 h2149 h2150
    have h2151 : z2147 = 3 := h2148.trans (by decide)
    subst h2151
    refine g_iret rfl rfl ?_
    exact ⟨_, _, rfl, rfl, by decide, by decide, by decide⟩
  · refine g_iload_n (n := 0) rfl rfl ?_
    refine g_iload_n (n := 0) rfl rfl ?_
    refine g_iconst rfl ?_
    refine g_iushr rfl ?_
    intro z2152 h2153 h2154 h2155
    have h2156 : z2152 = 21 := h2153.trans (by decide)
    subst h2156
    refine g_ldcw (n := 265) (x := 1431655765) (by decide +kernel) (show decode cJ6_bitCount_0f7a4 4 = .ok (.ldc_w 265, 3) by decide +kernel) ?_
    refine g_iand rfl ?_
    intro z2157 h2158 h2159 h2160
    have h2161 : z2157 = 21 := h2158.trans (by decide)
    subst h2161
    refine g_isubE (z := 22) (by decide) rfl ?_
    refine g_istore_n (n := 0) (lo' := []) rfl rfl ?_
    refine g_iload_n (n := 0) rfl rfl ?_
    refine g_ldcw (n := 266) (x := 858993459) (by decide +kernel) (show decode cJ6_bitCount_0f7a4 11 = .ok (.ldc_w 266, 3) by decide +kernel) ?_
    refine g_iand rfl ?_
    intro z2162 h2163 h2164 h2165
    have h2166 : z2162 = 18 := h2163.trans (by decide)
    subst h2166
    refine g_iload_n (n := 0) rfl rfl ?_
    refine g_iconst rfl ?_
    refine g_iushr rfl ?_
    intro z2167 h2168 h2169 h2170
    have h2171 : z2167 = 5 := h2168.trans (by decide)
    subst h2171
    refine g_ldcw (n := 266) (x := 858993459) (by decide +kernel) (show decode cJ6_bitCount_0f7a4 18 = .ok (.ldc_w 266, 3) by decide +kernel) ?_
    refine g_iand rfl ?_
    intro z2172 h2173 h2174 h2175
    have h2176 : z2172 = 1 := h2173.trans (by decide)
    subst h2176
    refine g_iaddE (z := 19) (by decide) rfl ?_
    refine g_istore_n (n := 0) (lo' := []) rfl rfl ?_
    refine g_iload_n (n := 0) rfl rfl ?_
    refine g_iload_n (n := 0) rfl rfl ?_
    refine g_iconst rfl ?_
    refine g_iushr rfl ?_
    intro z2177 h2178 h2179 h2180
    have h2181 : z2177 = 1 := h2178.trans (by decide)
    subst h2181
    refine g_iaddE (z := 20) (by decide) rfl ?_
    refine g_ldcw (n := 267) (x := 252645135) (by decide +kernel) (show decode cJ6_bitCount_0f7a4 29 = .ok (.ldc_w 267, 3) by decide +kernel) ?_
    refine g_iand rfl ?_
    intro z2182 h2183 h2184 h2185
    have h2186 : z2182 = 4 := h2183.trans (by decide)
    subst h2186
    refine g_istore_n (n := 0) (lo' := []) rfl rfl ?_
    refine g_iload_n (n := 0) rfl rfl ?_
    refine g_iload_n (n := 0) rfl rfl ?_
    refine g_bipush (by decide) rfl ?_
    refine g_iushr rfl ?_
    intro z2187 h2188 h2189 h2190
    have h2191 : z2187 = 0 := h2188.trans (by decide)
    subst h2191
    refine g_iaddE (z := 4) (by decide) rfl ?_
    refine g_istore_n (n := 0) (lo' := []) rfl rfl ?_
    refine g_iload_n (n := 0) rfl rfl ?_
    refine g_iload_n (n := 0) rfl rfl ?_
    refine g_bipush (by decide) rfl ?_
    refine g_iushr rfl ?_
    intro z2192 h2193 h2194 h2195
    have h2196 : z2192 = 0 := h2193.trans (by decide)
    subst h2196
    refine g_iaddE (z := 4) (by decide) rfl ?_
    refine g_istore_n (n := 0) (lo' := []) rfl rfl ?_
    refine g_iload_n (n := 0) rfl rfl ?_
    refine g_bipush (by decide) rfl ?_
    refine g_iand rfl ?_
    intro z2197 h2198 h2199 h2200
    have h2201 : z2197 = 4 := h2198.trans (by decide)
    subst h2201
    refine g_iret rfl rfl ?_
    exact ⟨_, _, rfl, rfl, by decide, by decide, by decide⟩
  · refine g_iload_n (n := 0) rfl rfl ?_
    refine g_iload_n (n := 0) rfl rfl ?_
    refine g_iconst rfl ?_
    refine g_iushr rfl ?_
    intro z2202 h2203 h2204 h2205
    have h2206 : z2202 = 22 := h2203.trans (by decide)
    subst h2206
    refine g_ldcw (n := 265) (x := 1431655765) (by decide +kernel) (show decode cJ6_bitCount_0f7a4 4 = .ok (.ldc_w 265, 3) by decide +kernel) ?_
    refine g_iand rfl ?_
    intro z2207 h2208 h2209 h2210
    have h2211 : z2207 = 20 := h2208.trans (by decide)
    subst h2211
    refine g_isubE (z := 24) (by decide) rfl ?_
    refine g_istore_n (n := 0) (lo' := []) rfl rfl ?_
    refine g_iload_n (n := 0) rfl rfl ?_
    refine g_ldcw (n := 266) (x := 858993459) (by decide +kernel) (show decode cJ6_bitCount_0f7a4 11 = .ok (.ldc_w 266, 3) by decide +kernel) ?_
    refine g_iand rfl ?_
    intro z2212 h2213 h2214 h2215
    have h2216 : z2212 = 16 := h2213.trans (by decide)
    subst h2216
    refine g_iload_n (n := 0) rfl rfl ?_
    refine g_iconst rfl ?_
    refine g_iushr rfl ?_
    intro z2217 h2218 h2219 h2220
    have h2221 : z2217 = 6 := h2218.trans (by decide)
    subst h2221
    refine g_ldcw (n := 266) (x := 858993459) (by decide +kernel) (show decode cJ6_bitCount_0f7a4 18 = .ok (.ldc_w 266, 3) by decide +kernel) ?_
    refine g_iand rfl ?_
    intro z2222 h2223 h2224 h2225
    have h2226 : z2222 = 2 := h2223.trans (by decide)
    subst h2226
    refine g_iaddE (z := 18) (by decide) rfl ?_
    refine g_istore_n (n := 0) (lo' := []) rfl rfl ?_
    refine g_iload_n (n := 0) rfl rfl ?_
    refine g_iload_n (n := 0) rfl rfl ?_
    refine g_iconst rfl ?_
    refine g_iushr rfl ?_
    intro z2227 h2228 h2229 h2230
    have h2231 : z2227 = 1 := h2228.trans (by decide)
    subst h2231
    refine g_iaddE (z := 19) (by decide) rfl ?_
    refine g_ldcw (n := 267) (x := 252645135) (by decide +kernel) (show decode cJ6_bitCount_0f7a4 29 = .ok (.ldc_w 267, 3) by decide +kernel) ?_
    refine g_iand rfl ?_
    intro z2232 h2233 h2234 h2235
    have h2236 : z2232 = 3 := h2233.trans (by decide)
    subst h2236
    refine g_istore_n (n := 0) (lo' := []) rfl rfl ?_
    refine g_iload_n (n := 0) rfl rfl ?_
    refine g_iload_n (n := 0) rfl rfl ?_
    refine g_bipush (by decide) rfl ?_
    refine g_iushr rfl ?_
    intro z2237 h2238 h2239 h2240
    have h2241 : z2237 = 0 := h2238.trans (by decide)
    subst h2241
    refine g_iaddE (z := 3) (by decide) rfl ?_
    refine g_istore_n (n := 0) (lo' := []) rfl rfl ?_
    refine g_iload_n (n := 0) rfl rfl ?_
    refine g_iload_n (n := 0) rfl rfl ?_
    refine g_bipush (by decide) rfl ?_
    refine g_iushr rfl ?_
    intro z2242 h2243 h2244 h2245
    have h2246 : z2242 = 0 := h2243.trans (by decide)
    subst h2246
    refine g_iaddE (z := 3) (by decide) rfl ?_
    refine g_istore_n (n := 0) (lo' := []) rfl rfl ?_
    refine g_iload_n (n := 0) rfl rfl ?_
    refine g_bipush (by decide) rfl ?_
    refine g_iand rfl ?_
    intro z2247 h2248 h2249 h2250
    have h2251 : z2247 = 3 := h2248.trans (by decide)
    subst h2251
    refine g_iret rfl rfl ?_
    exact ⟨_, _, rfl, rfl, by decide, by decide, by decide⟩
  · refine g_iload_n (n := 0) rfl rfl ?_
    refine g_iload_n (n := 0) rfl rfl ?_
    refine g_iconst rfl ?_
    refine g_iushr rfl ?_
    intro z2252 h2253 h2254 h2255
    have h2256 : z2252 = 22 := h2253.trans (by decide)
    subst h2256
    refine g_ldcw (n := 265) (x := 1431655765) (by decide +kernel) (show decode cJ6_bitCount_0f7a4 4 = .ok (.ldc_w 265, 3) by decide +kernel) ?_
    refine g_iand rfl ?_
    intro z2257 h2258 h2259 h2260
    have h2261 : z2257 = 20 := h2258.trans (by decide)
    subst h2261
    refine g_isubE (z := 25) (by decide) rfl ?_
    refine g_istore_n (n := 0) (lo' := []) rfl rfl ?_
    refine g_iload_n (n := 0) rfl rfl ?_
    refine g_ldcw (n := 266) (x := 858993459) (by decide +kernel) (show decode cJ6_bitCount_0f7a4 11 = .ok (.ldc_w 266, 3) by decide +kernel) ?_
    refine g_iand rfl ?_
    intro z2262 h2263 h2264 h2265
    have h2266 : z2262 = 17 := h2263.trans (by decide)
    subst h2266
    refine g_iload_n (n := 0) rfl rfl ?_
    refine g_iconst rfl ?_
    refine g_iushr rfl ?_
    intro z2267 h2268 h2269 h2270
    have h2271 : z2267 = 6 := h2268.trans (by decide)
    subst h2271
    refine g_ldcw (n := 266) (x := 858993459) (by decide +kernel) (show decode cJ6_bitCount_0f7a4 18 = .ok (.ldc_w 266, 3) by decide +kernel) ?_
    refine g_iand rfl ?_
    intro z2272 h2273 h2274 h2275
    have h2276 : z2272 = 2 := h2273.trans (by decide)
    subst h2276
    refine g_iaddE (z := 19) (by decide) rfl ?_
    refine g_istore_n (n := 0) (lo' := []) rfl rfl ?_
    refine g_iload_n (n := 0) rfl rfl ?_
    refine g_iload_n (n := 0) rfl rfl ?_
    refine g_iconst rfl ?_
    refine g_iushr rfl ?_
    intro z2277 h2278 h2279 h2280
    have h2281 : z2277 = 1 := h2278.trans (by decide)
    subst h2281
    refine g_iaddE (z := 20) (by decide) rfl ?_
    refine g_ldcw (n := 267) (x := 252645135) (by decide +kernel) (show decode cJ6_bitCount_0f7a4 29 = .ok (.ldc_w 267, 3) by decide +kernel) ?_
    refine g_iand rfl ?_
    intro z2282 h2283 h2284 h2285
    have h2286 : z2282 = 4 := h2283.trans (by decide)
    subst h2286
    refine g_istore_n (n := 0) (lo' := []) rfl rfl ?_
    refine g_iload_n (n := 0) rfl rfl ?_
    refine g_iload_n (n := 0) rfl rfl ?_
    refine g_bipush (by decide) rfl ?_
    refine g_iushr rfl ?_
    intro z2287 h2288 h2289 h2290
    have h2291 : z2287 = 0 := h2288.trans (by decide)
    subst h2291
    refine g_iaddE (z := 4) (by decide) rfl ?_
    refine g_istore_n (n := 0) (lo' := []) rfl rfl ?_
    refine g_iload_n (n := 0) rfl rfl ?_
    refine g_iload_n (n := 0) rfl rfl ?_
    refine g_bipush (by decide) rfl ?_
    refine g_iushr rfl ?_
    intro z2292 h2293 h2294 h2295
    have h2296 : z2292 = 0 := h2293.trans (by decide)
    subst h2296
    refine g_iaddE (z := 4) (by decide) rfl ?_
    refine g_istore_n (n := 0) (lo' := []) rfl rfl ?_
    refine g_iload_n (n := 0) rfl rfl ?_
    refine g_bipush (by decide) rfl ?_
    refine g_iand rfl ?_
    intro z2297 h2298 h2299 h2300
    have h2301 : z2297 = 4 := h2298.trans (by decide)
    subst h2301
    refine g_iret rfl rfl ?_
    exact ⟨_, _, rfl, rfl, by decide, by decide, by decide⟩
  · refine g_iload_n (n := 0) rfl rfl ?_
    refine g_iload_n (n := 0) rfl rfl ?_
    refine g_iconst rfl ?_
    refine g_iushr rfl ?_
    intro z2302 h2303 h2304 h2305
    have h2306 : z2302 = 23 := h2303.trans (by decide)
    subst h2306
    refine g_ldcw (n := 265) (x := 1431655765) (by decide +kernel) (show decode cJ6_bitCount_0f7a4 4 = .ok (.ldc_w 265, 3) by decide +kernel) ?_
    refine g_iand rfl ?_
    intro z2307 h2308 h2309 h2310
    have h2311 : z2307 = 21 := h2308.trans (by decide)
    subst h2311
    refine g_isubE (z := 25) (by decide) rfl ?_
    refine g_istore_n (n := 0) (lo' := []) rfl rfl ?_
    refine g_iload_n (n := 0) rfl rfl ?_
    refine g_ldcw (n := 266) (x := 858993459) (by decide +kernel) (show decode cJ6_bitCount_0f7a4 11 = .ok (.ldc_w 266, 3) by decide +kernel) ?_
    refine g_iand rfl ?_
    intro z2312 h2313 h2314 h2315
    have h2316 : z2312 = 17 := h2313.trans (by decide)
    subst h2316
    refine g_iload_n (n := 0) rfl rfl ?_
    refine g_iconst rfl ?_
    refine g_iushr rfl ?_
    intro z2317 h2318 h2319 h2320
    have h2321 : z2317 = 6 := h2318.trans (by decide)
    subst h2321
    refine g_ldcw (n := 266) (x := 858993459) (by decide +kernel) (show decode cJ6_bitCount_0f7a4 18 = .ok (.ldc_w 266, 3) by decide +kernel) ?_
    refine g_iand rfl ?_
    intro z2322 h2323 h2324 h2325
    have h2326 : z2322 = 2 := h2323.trans (by decide)
    subst h2326
    refine g_iaddE (z := 19) (by decide) rfl ?_
    refine g_istore_n (n := 0) (lo' := []) rfl rfl ?_
    refine g_iload_n (n := 0) rfl rfl ?_
    refine g_iload_n (n := 0) rfl rfl ?_
    refine g_iconst rfl ?_
    refine g_iushr rfl ?_
    intro z2327 h2328 h2329 h2330
    have h2331 : z2327 = 1 := h2328.trans (by decide)
    subst h2331
    refine g_iaddE (z := 20) (by decide) rfl ?_
    refine g_ldcw (n := 267) (x := 252645135) (by decide +kernel) (show decode cJ6_bitCount_0f7a4 29 = .ok (.ldc_w 267, 3) by decide +kernel) ?_
    refine g_iand rfl ?_
    intro z2332 h2333 h2334 h2335
    have h2336 : z2332 = 4 := h2333.trans (by decide)
    subst h2336
    refine g_istore_n (n := 0) (lo' := []) rfl rfl ?_
    refine g_iload_n (n := 0) rfl rfl ?_
    refine g_iload_n (n := 0) rfl rfl ?_
    refine g_bipush (by decide) rfl ?_
    refine g_iushr rfl ?_
    intro z2337 h2338 h2339 h2340
    have h2341 : z2337 = 0 := h2338.trans (by decide)
    subst h2341
    refine g_iaddE (z := 4) (by decide) rfl ?_
    refine g_istore_n (n := 0) (lo' := []) rfl rfl ?_
    refine g_iload_n (n := 0) rfl rfl ?_
    refine g_iload_n (n := 0) rfl rfl ?_
    refine g_bipush (by decide) rfl ?_
    refine g_iushr rfl ?_
    intro z2342 h2343 h2344 h2345
    have h2346 : z2342 = 0 := h2343.trans (by decide)
    subst h2346
    refine g_iaddE (z := 4) (by decide) rfl ?_
    refine g_istore_n (n := 0) (lo' := []) rfl rfl ?_
    refine g_iload_n (n := 0) rfl rfl ?_
    refine g_bipush (by decide) rfl ?_
    refine g_iand rfl ?_
    intro z2347 h2348 h2349 h2350
    have h2351 : z2347 = 4 := h2348.trans (by decide)
    subst h2351
    refine g_iret rfl rfl ?_
    exact ⟨_, _, rfl, rfl, by decide, by decide, by decide⟩
  · refine g_iload_n (n := 0) rfl rfl ?_
    refine g_iload_n (n := 0) rfl rfl ?_
    refine g_iconst rfl ?_
    refine g_iushr rfl ?_
    intro z2352 h2353 h2354 h2355
    have h2356 : z2352 = 23 := h2353.trans (by decide)
    subst h2356
    refine g_ldcw (n := 265) (x := 1431655765) (by decide +kernel) (show decode cJ6_bitCount_0f7a4 4 = .ok (.ldc_w 265, 3) by decide +kernel) ?_
    refine g_iand rfl ?_
    intro z2357 h2358 h2359 h2360
    have h2361 : z2357 = 21 := h2358.trans (by decide)
    subst h2361
    refine g_isubE (z := 26) (by decide) rfl ?_
    refine g_istore_n (n := 0) (lo' := []) rfl rfl ?_
    refine g_iload_n (n := 0) rfl rfl ?_
    refine g_ldcw (n := 266) (x := 858993459) (by decide +kernel) (show decode cJ6_bitCount_0f7a4 11 = .ok (.ldc_w 266, 3) by decide +kernel) ?_
    refine g_iand rfl ?_
    intro z2362 h2363 h2364 h2365
    have h2366 : z2362 = 18 := h2363.trans (by decide)
    subst h2366
    refine g_iload_n (n := 0) rfl rfl ?_
    refine g_iconst rfl ?_
    refine g_iushr rfl ?_
    intro z2367 h2368 h2369 h2370
    have h2371 : z2367 = 6 := h2368.trans (by decide)
    subst h2371
    refine g_ldcw (n := 266) (x := 858993459) (by decide +kernel) (show decode cJ6_bitCount_0f7a4 18 = .ok (.ldc_w 266, 3) by decide +kernel) ?_
    refine g_iand rfl ?_
    intro z2372 h2373 h2374 h2375
    have h2376 : z2372 = 2 := h2373.trans (by decide)
    subst h2376
    refine g_iaddE (z := 20) (by decide) rfl ?_
    refine g_istore_n (n := 0) (lo' := []) rfl rfl ?_
    refine g_iload_n (n := 0) rfl rfl ?_
    refine g_iload_n (n := 0) rfl rfl ?_
    refine g_iconst rfl ?_
    refine g_iushr rfl ?_
    intro z2377 h2378 h2379 h2380
    have h2381 : z2377 = 1 := h2378.trans (by decide)
    subst h2381
    refine g_iaddE (z := 21) (by decide) rfl ?_
    refine g_ldcw (n := 267) (x := 252645135) (by decide +kernel) (show decode cJ6_bitCount_0f7a4 29 = .ok (.ldc_w 267, 3) by decide +kernel) ?_
    refine g_iand rfl ?_
    intro z2382 h2383 h2384 h2385
    have h2386 : z2382 = 5 := h2383.trans (by decide)
    subst h2386
    refine g_istore_n (n := 0) (lo' := []) rfl rfl ?_
    refine g_iload_n (n := 0) rfl rfl ?_
    refine g_iload_n (n := 0) rfl rfl ?_
    refine g_bipush (by decide) rfl ?_
    refine g_iushr rfl ?_
    intro z2387 h2388 h2389 h2390
    have h2391 : z2387 = 0 := h2388.trans (by decide)
    subst h2391
    refine g_iaddE (z := 5) (by decide) rfl ?_
    refine g_istore_n (n := 0) (lo' := []) rfl rfl ?_
    refine g_iload_n (n := 0) rfl rfl ?_
    refine g_iload_n (n := 0) rfl rfl ?_
    refine g_bipush (by decide) rfl ?_
    refine g_iushr rfl ?_
    intro z2392 h2393 h2394 h2395
    have h2396 : z2392 = 0 := h2393.trans (by decide)
    subst h2396
    refine g_iaddE (z := 5) (by decide) rfl ?_
    refine g_istore_n (n := 0) (lo' := []) rfl rfl ?_
    refine g_iload_n (n := 0) rfl rfl ?_
    refine g_bipush (by decide) rfl ?_
    refine g_iand rfl ?_
    intro z2397 h2398 h2399 h2400
    have h2401 : z2397 = 5 := h2398.trans (by decide)
    subst h2401
    refine g_iret rfl rfl ?_
    exact ⟨_, _, rfl, rfl, by decide, by decide, by decide⟩
  · refine g_iload_n (n := 0) rfl rfl ?_
    refine g_iload_n (n := 0) rfl rfl ?_
    refine g_iconst rfl ?_
    refine g_iushr rfl ?_
    intro z2402 h2403 h2404 h2405
    have h2406 : z2402 = 24 := h2403.trans (by decide)
    subst h2406
    refine g_ldcw (n := 265) (x := 1431655765) (by decide +kernel) (show decode cJ6_bitCount_0f7a4 4 = .ok (.ldc_w 265, 3) by decide +kernel) ?_
    refine g_iand rfl ?_
    intro z2407 h2408 h2409 h2410
    have h2411 : z2407 = 16 := h2408.trans (by decide)
    subst h2411
    refine g_isubE (z := 32) (by decide) rfl ?_
    refine g_istore_n (n := 0) (lo' := []) rfl rfl ?_
    refine g_iload_n (n := 0) rfl rfl ?_
    refine g_ldcw (n := 266) (x := 858993459) (by decide +kernel) (show decode cJ6_bitCount_0f7a4 11 = .ok (.ldc_w 266, 3) by decide +kernel) ?_
    refine g_iand rfl ?_
    intro z2412 h2413 h2414 h2415
    have h2416 : z2412 = 32 := h2413.trans (by decide)
    subst h2416
    refine g_iload_n (n := 0) rfl rfl ?_
    refine g_iconst rfl ?_
    refine g_iushr rfl ?_
    intro z2417 h2418 h2419 h2420
    have h2421 : z2417 = 8 := h2418.trans (by decide)
    subst h2421
    refine g_ldcw (n := 266) (x := 858993459) (by decide +kernel) (show decode cJ6_bitCount_0f7a4 18 = .ok (.ldc_w 266, 3) by decide +kernel) ?_
    refine g_iand rfl ?_
    intro z2422 h2423 h2424 h2425
    have h2426 : z2422 = 0 := h2423.trans (by decide)
    subst h2426
    refine g_iaddE (z := 32) (by decide) rfl ?_
    refine g_istore_n (n := 0) (lo' := []) rfl rfl ?_
    refine g_iload_n (n := 0) rfl rfl ?_
    refine g_iload_n (n := 0) rfl rfl ?_
    refine g_iconst rfl ?_
    refine g_iushr rfl ?_
    intro z2427 h2428 h2429 h2430
    have h2431 : z2427 = 2 := h2428.trans (by decide)
    subst h2431
    refine g_iaddE (z := 34) (by decide) rfl ?_
    refine g_ldcw (n := 267) (x := 252645135) (by decide +kernel) (show decode cJ6_bitCount_0f7a4 29 = .ok (.ldc_w 267, 3) by decide +kernel) ?_
    refine g_iand rfl ?_
    intro z2432 h2433 h2434 h2435
    have h2436 : z2432 = 2 := h2433.trans (by decide)
    subst h2436
    refine g_istore_n (n := 0) (lo' := []) rfl rfl ?_
    refine g_iload_n (n := 0) rfl rfl ?_
    refine g_iload_n (n := 0) rfl rfl ?_
    refine g_bipush (by decide) rfl ?_
    refine g_iushr rfl ?_
    intro z2437 h2438 h2439 h2440
    have h2441 : z2437 = 0 := h2438.trans (by decide)
    subst h2441
    refine g_iaddE (z := 2) (by decide) rfl ?_
    refine g_istore_n (n := 0) (lo' := []) rfl rfl ?_
    refine g_iload_n (n := 0) rfl rfl ?_
    refine g_iload_n (n := 0) rfl rfl ?_
    refine g_bipush (by decide) rfl ?_
    refine g_iushr rfl ?_
    intro z2442 h2443 h2444 h2445
    have h2446 : z2442 = 0 := h2443.trans (by decide)
    subst h2446
    refine g_iaddE (z := 2) (by decide) rfl ?_
    refine g_istore_n (n := 0) (lo' := []) rfl rfl ?_
    refine g_iload_n (n := 0) rfl rfl ?_
    refine g_bipush (by decide) rfl ?_
    refine g_iand rfl ?_
    intro z2447 h2448 h2449 h2450
    have h2451 : z2447 = 2 := h2448.trans (by decide)
    subst h2451
    refine g_iret rfl rfl ?_
    exact ⟨_, _, rfl, rfl, by decide, by decide, by decide⟩
  · refine g_iload_n (n := 0) rfl rfl ?_
    refine g_iload_n (n := 0) rfl rfl ?_
    refine g_iconst rfl ?_
    refine g_iushr rfl ?_
    intro z2452 h2453 h2454 h2455
    have h2456 : z2452 = 24 := h2453.trans (by decide)
    subst h2456
    refine g_ldcw (n := 265) (x := 1431655765) (by decide +kernel) (show decode cJ6_bitCount_0f7a4 4 = .ok (.ldc_w 265, 3) by decide +kernel) ?_
    refine g_iand rfl ?_
    intro z2457 h2458 h2459 h2460
    have h2461 : z2457 = 16 := h2458.trans (by decide)
    subst h2461
    refine g_isubE (z := 33) (by decide) rfl ?_
    refine g_istore_n (n := 0) (lo' := []) rfl rfl ?_
    refine g_iload_n (n := 0) rfl rfl ?_
    refine g_ldcw (n := 266) (x := 858993459) (by decide +kernel) (show decode cJ6_bitCount_0f7a4 11 = .ok (.ldc_w 266, 3) by decide +kernel) ?_
    refine g_iand rfl ?_
    intro z2462 h2463 h2464 h2465
    have h2466 : z2462 = 33 := h2463.trans (by decide)
    subst h2466
    refine g_iload_n (n := 0) rfl rfl ?_
    refine g_iconst rfl ?_
    refine g_iushr rfl ?_
    intro z2467 h2468 h2469 h2470
    have h2471 : z2467 = 8 := h2468.trans (by decide)
    subst h2471
    refine g_ldcw (n := 266) (x := 858993459) (by decide +kernel) (show decode cJ6_bitCount_0f7a4 18 = .ok (.ldc_w 266, 3) by decide +kernel) ?_
    refine g_iand rfl ?_
    intro z2472 h2473 h2474 h2475
    have h2476 : z2472 = 0 := h2473.trans (by decide)
    subst h2476
    refine g_iaddE (z := 33) (by decide) rfl ?_
    refine g_istore_n (n := 0) (lo' := []) rfl rfl ?_
    refine g_iload_n (n := 0) rfl rfl ?_
    refine g_iload_n (n := 0) rfl rfl ?_
    refine g_iconst rfl ?_
    refine g_iushr rfl ?_
    intro z2477 h2478 h2479 h2480
    have h2481 : z2477 = 2 := h2478.trans (by decide)
    subst h2481
    refine g_iaddE (z := 35) (by decide) rfl ?_
    refine g_ldcw (n := 267) (x := 252645135) (by decide +kernel) (show decode cJ6_bitCount_0f7a4 29 = .ok (.ldc_w 267, 3) by decide +kernel) ?_
    refine g_iand rfl ?_
    intro z2482 h2483 h2484 h2485
    have h2486 : z2482 = 3 := h2483.trans (by decide)
    subst h2486
    refine g_istore_n (n := 0) (lo' := []) rfl rfl ?_
    refine g_iload_n (n := 0) rfl rfl ?_
    refine g_iload_n (n := 0) rfl rfl ?_
    refine g_bipush (by decide) rfl ?_
    refine g_iushr rfl ?_
    intro z2487 h2488 h2489 h2490
    have h2491 : z2487 = 0 := h2488.trans (by decide)
    subst h2491
    refine g_iaddE (z := 3) (by decide) rfl ?_
    refine g_istore_n (n := 0) (lo' := []) rfl rfl ?_
    refine g_iload_n (n := 0) rfl rfl ?_
    refine g_iload_n (n := 0) rfl rfl ?_
    refine g_bipush (by decide) rfl ?_
    refine g_iushr rfl ?_
    intro z2492 h2493 h2494 h2495
    have h2496 : z2492 = 0 := h2493.trans (by decide)
    subst h2496
    refine g_iaddE (z := 3) (by decide) rfl ?_
    refine g_istore_n (n := 0) (lo' := []) rfl rfl ?_
    refine g_iload_n (n := 0) rfl rfl ?_
    refine g_bipush (by decide) rfl ?_
    refine g_iand rfl ?_
    intro z2497 h2498 h2499 h2500
    have h2501 : z2497 = 3 := h2498.trans (by decide)
    subst h2501
    refine g_iret rfl rfl ?_
    exact ⟨_, _, rfl, rfl, by decide, by decide, by decide⟩
  · refine g_iload_n (n := 0) rfl rfl ?_
    refine g_iload_n (n := 0) rfl rfl ?_
    refine g_iconst rfl ?_
    refine g_iushr rfl ?_
    intro z2502 h2503 h2504 h2505
    have h2506 : z2502 = 25 := h2503.trans (by decide)
    subst h2506
    refine g_ldcw (n := 265) (x := 1431655765) (by decide +kernel) (show decode cJ6_bitCount_0f7a4 4 = .ok (.ldc_w 265, 3) by decide +kernel) ?_
    refine g_iand rfl ?_
    intro z2507 h2508 h2509 h2510
    have h2511 : z2507 = 17 := h2508.trans (by decide)
    subst h2511
    refine g_isubE (z := 33) (by decide) rfl ?_
    refine g_istore_n (n := 0) (lo' := []) rfl rfl ?_
    refine g_iload_n (n := 0) rfl rfl ?_
    refine g_ldcw (n := 266) (x := 858993459) (by decide +kernel) (show decode cJ6_bitCount_0f7a4 11 = .ok (.ldc_w 266, 3) by decide +kernel) ?_
    refine g_iand rfl ?_
    intro z2512 h2513 h2514 h2515
    have h2516 : z2512 = 33 := h2513.trans (by decide)
    subst h2516
    refine g_iload_n (n := 0) rfl rfl ?_
    refine g_iconst rfl ?_
    refine g_iushr rfl ?_
    intro z2517 h2518 h2519 h2520
    have h2521 : z2517 = 8 := h2518.trans (by decide)
    subst h2521
    refine g_ldcw (n := 266) (x := 858993459) (by decide +kernel) (show decode cJ6_bitCount_0f7a4 18 = .ok (.ldc_w 266, 3) by decide +kernel) ?_
    refine g_iand rfl ?_
    intro z2522 h2523 h2524 h2525
    have h2526 : z2522 = 0 := h2523.trans (by decide)
    subst h2526
    refine g_iaddE (z := 33) (by decide) rfl ?_
    refine g_istore_n (n := 0) (lo' := []) rfl rfl ?_
    refine g_iload_n (n := 0) rfl rfl ?_
    refine g_iload_n (n := 0) rfl rfl ?_
    refine g_iconst rfl ?_
    refine g_iushr rfl ?_
    intro z2527 h2528 h2529 h2530
    have h2531 : z2527 = 2 := h2528.trans (by decide)
    subst h2531
    refine g_iaddE (z := 35) (by decide) rfl ?_
    refine g_ldcw (n := 267) (x := 252645135) (by decide +kernel) (show decode cJ6_bitCount_0f7a4 29 = .ok (.ldc_w 267, 3) by decide +kernel) ?_
    refine g_iand rfl ?_
    intro z2532 h2533 h2534 h2535
    have h2536 : z2532 = 3 := h2533.trans (by decide)
    subst h2536
    refine g_istore_n (n := 0) (lo' := []) rfl rfl ?_
    refine g_iload_n (n := 0) rfl rfl ?_
    refine g_iload_n (n := 0) rfl rfl ?_
    refine g_bipush (by decide) rfl ?_
    refine g_iushr rfl ?_
    intro z2537 h2538 h2539 h2540
    have h2541 : z2537 = 0 := h2538.trans (by decide)
    subst h2541
    refine g_iaddE (z := 3) (by decide) rfl ?_
    refine g_istore_n (n := 0) (lo' := []) rfl rfl ?_
    refine g_iload_n (n := 0) rfl rfl ?_
    refine g_iload_n (n := 0) rfl rfl ?_
    refine g_bipush (by decide) rfl ?_
    refine g_iushr rfl ?_
    intro z2542 h2543 h2544 h2545
    have h2546 : z2542 = 0 := h2543.trans (by decide)
    subst h2546
    refine g_iaddE (z := 3) (by decide) rfl ?_
    refine g_istore_n (n := 0) (lo' := []) rfl rfl ?_
    refine g_iload_n (n := 0) rfl rfl ?_
    refine g_bipush (by decide) rfl ?_
    refine g_iand rfl ?_
    intro z2547 h2548 h2549 h2550
    have h2551 : z2547 = 3 := h2548.trans (by decide)
    subst h2551
    refine g_iret rfl rfl ?_
    exact ⟨_, _, rfl, rfl, by decide, by decide, by decide⟩
  · refine g_iload_n (n := 0) rfl rfl ?_
    refine g_iload_n (n := 0) rfl rfl ?_
    refine g_iconst rfl ?_
    refine g_iushr rfl ?_
    intro z2552 h2553 h2554 h2555
    have h2556 : z2552 = 25 := h2553.trans (by decide)
    subst h2556
    refine g_ldcw (n := 265) (x := 1431655765) (by decide +kernel) (show decode cJ6_bitCount_0f7a4 4 = .ok (.ldc_w 265, 3) by decide +kernel) ?_
    refine g_iand rfl ?_
    intro z2557 h2558 h2559 h2560
    have h2561 : z2557 = 17 := h2558.trans (by decide)
    subst h2561
    refine g_isubE (z := 34) (by decide) rfl ?_
    refine g_istore_n (n := 0) (lo' := []) rfl rfl ?_
    refine g_iload_n (n := 0) rfl rfl ?_
    refine g_ldcw (n := 266) (x := 858993459) (by decide +kernel) (show decode cJ6_bitCount_0f7a4 11 = .ok (.ldc_w 266, 3) by decide +kernel) ?_
    refine g_iand rfl ?_
    intro z2562 h2563 h2564 h2565
    have h2566 : z2562 = 34 := h2563.trans (by decide)
    subst h2566
    refine g_iload_n (n := 0) rfl rfl ?_
    refine g_iconst rfl ?_
    refine g_iushr rfl ?_
    intro z2567 h2568 h2569 h2570
    have h2571 : z2567 = 8 := h2568.trans (by decide)
    subst h2571
    refine g_ldcw (n := 266) (x := 858993459) (by decide +kernel) (show decode cJ6_bitCount_0f7a4 18 = .ok (.ldc_w 266, 3) by decide +kernel) ?_
    refine g_iand rfl ?_
    intro z2572 h2573 h2574 h2575
    have h2576 : z2572 = 0 := h2573.trans (by decide)
    subst h2576
    refine g_iaddE (z := 34) (by decide) rfl ?_
    refine g_istore_n (n := 0) (lo' := []) rfl rfl ?_
    refine g_iload_n (n := 0) rfl rfl ?_
    refine g_iload_n (n := 0) rfl rfl ?_
    refine g_iconst rfl ?_
    refine g_iushr rfl ?_
    intro z2577 h2578 h2579 h2580
    have h2581 : z2577 = 2 := h2578.trans (by decide)
    subst h2581
    refine g_iaddE (z := 36) (by decide) rfl ?_
    refine g_ldcw (n := 267) (x := 252645135) (by decide +kernel) (show decode cJ6_bitCount_0f7a4 29 = .ok (.ldc_w 267, 3) by decide +kernel) ?_
    refine g_iand rfl ?_
    intro z2582 h2583 h2584 h2585
    have h2586 : z2582 = 4 := h2583.trans (by decide)
    subst h2586
    refine g_istore_n (n := 0) (lo' := []) rfl rfl ?_
    refine g_iload_n (n := 0) rfl rfl ?_
    refine g_iload_n (n := 0) rfl rfl ?_
    refine g_bipush (by decide) rfl ?_
    refine g_iushr rfl ?_
    intro z2587 h2588 h2589 h2590
    have h2591 : z2587 = 0 := h2588.trans (by decide)
    subst h2591
    refine g_iaddE (z := 4) (by decide) rfl ?_
    refine g_istore_n (n := 0) (lo' := []) rfl rfl ?_
    refine g_iload_n (n := 0) rfl rfl ?_
    refine g_iload_n (n := 0) rfl rfl ?_
    refine g_bipush (by decide) rfl ?_
    refine g_iushr rfl ?_
    intro z2592 h2593 h2594 h2595
    have h2596 : z2592 = 0 := h2593.trans (by decide)
    subst h2596
    refine g_iaddE (z := 4) (by decide) rfl ?_
    refine g_istore_n (n := 0) (lo' := []) rfl rfl ?_
    refine g_iload_n (n := 0) rfl rfl ?_
    refine g_bipush (by decide) rfl ?_
    refine g_iand rfl ?_
    intro z2597 h2598 h2599 h2600
    have h2601 : z2597 = 4 := h2598.trans (by decide)
    subst h2601
    refine g_iret rfl rfl ?_
    exact ⟨_, _, rfl, rfl, by decide, by decide, by decide⟩
  · refine g_iload_n (n := 0) rfl rfl ?_
    refine g_iload_n (n := 0) rfl rfl ?_
    refine g_iconst rfl ?_
    refine g_iushr rfl ?_
    intro z2602 h2603 h2604 h2605
    have h2606 : z2602 = 26 := h2603.trans (by decide)
    subst h2606
    refine g_ldcw (n := 265) (x := 1431655765) (by decide +kernel) (show decode cJ6_bitCount_0f7a4 4 = .ok (.ldc_w 265, 3) by decide +kernel) ?_
    refine g_iand rfl ?_
    intro z2607 h2608 h2609 h2610
    have h2611 : z2607 = 16 := h2608.trans (by decide)
    subst h2611
    refine g_isubE (z := 36) (by decide) rfl ?_
    refine g_istore_n (n := 0) (lo' := []) rfl rfl ?_
    refine g_iload_n (n := 0) rfl rfl ?_
    refine g_ldcw (n := 266) (x := 858993459) (by decide +kernel) (show decode cJ6_bitCount_0f7a4 11 = .ok (.ldc_w 266, 3) by decide +kernel) ?_
    refine g_iand rfl ?_
    intro z2612 h2613 h2614 h2615
    have h2616 : z2612 = 32 := h2613.trans (by decide)
    subst h2616
    refine g_iload_n (n := 0) rfl rfl ?_
    refine g_iconst rfl ?_
    refine g_iushr rfl ?_
    intro z2617 h2618 h2619 h2620
    have h2621 : z2617 = 9 := h2618.trans (by decide)
    subst h2621
    refine g_ldcw (n := 266) (x := 858993459) (by decide +kernel) (show decode cJ6_bitCount_0f7a4 18 = .ok (.ldc_w 266, 3) by decide +kernel) ?_
    refine g_iand rfl ?_
    intro z2622 h2623 h2624 h2625
    have h2626 : z2622 = 1 := h2623.trans (by decide)
    subst h2626
    refine g_iaddE (z := 33) (by decide) rfl ?_
    refine g_istore_n (n := 0) (lo' := []) rfl rfl ?_
    refine g_iload_n (n := 0) rfl rfl ?_
    refine g_iload_n (n := 0) rfl rfl ?_
    refine g_iconst rfl ?_
    refine g_iushr rfl ?_
    intro z2627 h2628 h2629 h2630
    have h2631 : z2627 = 2 := h2628.trans (by decide)
    subst h2631
    refine g_iaddE (z := 35) (by decide) rfl ?_
    refine g_ldcw (n := 267) (x := 252645135) (by decide +kernel) (show decode cJ6_bitCount_0f7a4 29 = .ok (.ldc_w 267, 3) by decide +kernel) ?_
    refine g_iand rfl ?_
    intro z2632 h2633 h2634 h2635
    have h2636 : z2632 = 3 := h2633.trans (by decide)
    subst h2636
    refine g_istore_n (n := 0) (lo' := []) rfl rfl ?_
    refine g_iload_n (n := 0) rfl rfl ?_
    refine g_iload_n (n := 0) rfl rfl ?_
    refine g_bipush (by decide) rfl ?_
    refine g_iushr rfl ?_
    intro z2637 h2638 h2639 h2640
    have h2641 : z2637 = 0 := h2638.trans (by decide)
    subst h2641
    refine g_iaddE (z := 3) (by decide) rfl ?_
    refine g_istore_n (n := 0) (lo' := []) rfl rfl ?_
    refine g_iload_n (n := 0) rfl rfl ?_
    refine g_iload_n (n := 0) rfl rfl ?_
    refine g_bipush (by decide) rfl ?_
    refine g_iushr rfl ?_
    intro z2642 h2643 h2644 h2645
    have h2646 : z2642 = 0 := h2643.trans (by decide)
    subst h2646
    refine g_iaddE (z := 3) (by decide) rfl ?_
    refine g_istore_n (n := 0) (lo' := []) rfl rfl ?_
    refine g_iload_n (n := 0) rfl rfl ?_
    refine g_bipush (by decide) rfl ?_
    refine g_iand rfl ?_
    intro z2647 h2648 h2649 h2650
    have h2651 : z2647 = 3 := h2648.trans (by decide)
    subst h2651
    refine g_iret rfl rfl ?_
    exact ⟨_, _, rfl, rfl, by decide, by decide, by decide⟩
  · refine g_iload_n (n := 0) rfl rfl ?_
    refine g_iload_n (n := 0) rfl rfl ?_
    refine g_iconst rfl ?_
    refine g_iushr rfl ?_
    intro z2652 h2653 h2654 h2655
    have h2656 : z2652 = 26 := h2653.trans (by decide)
    subst h2656
    refine g_ldcw (n := 265) (x := 1431655765) (by decide +kernel) (show decode cJ6_bitCount_0f7a4 4 = .ok (.ldc_w 265, 3) by decide +kernel) ?_
    refine g_iand rfl ?_
    intro z2657 h2658 h2659 h2660
    have h2661 : z2657 = 16 := h2658.trans (by decide)
    subst h2661
    refine g_isubE (z := 37) (by decide) rfl ?_
    refine g_istore_n (n := 0) (lo' := []) rfl rfl ?_
    refine g_iload_n (n := 0) rfl rfl ?_
    refine g_ldcw (n := 266) (x := 858993459) (by decide +kernel) (show decode cJ6_bitCount_0f7a4 11 = .ok (.ldc_w 266, 3) by decide +kernel) ?_
    refine g_iand rfl ?_
    intro z2662 h2663 h2664 h2665
    have h2666 : z2662 = 33 := h2663.trans (by decide)
    subst h2666
    refine g_iload_n (n := 0) rfl rfl ?_
    refine g_iconst rfl ?_
    refine g_iushr rfl ?_
    intro z2667 h2668 h2669 h2670
    have h2671 : z2667 = 9 := h2668.trans (by decide)
    subst h2671
    refine g_ldcw (n := 266) (x := 858993459) (by decide +kernel) (show decode cJ6_bitCount_0f7a4 18 = .ok (.ldc_w 266, 3) by decide +kernel) ?_
    refine g_iand rfl ?_
    intro z2672 h2673 h2674 h2675
    have h2676 : z2672 = 1 := h2673.trans (by decide)
    subst h2676
    refine g_iaddE (z := 34) (by decide) rfl ?_
    refine g_istore_n (n := 0) (lo' := []) rfl rfl ?_
    refine g_iload_n (n := 0) rfl rfl ?_
    refine g_iload_n (n := 0) rfl rfl ?_
    refine g_iconst rfl ?_
    refine g_iushr rfl ?_
    intro z2677 h2678 h2679 h2680
    have h2681 : z2677 = 2 := h2678.trans (by decide)
    subst h2681
    refine g_iaddE (z := 36) (by decide) rfl ?_
    refine g_ldcw (n := 267) (x := 252645135) (by decide +kernel) (show decode cJ6_bitCount_0f7a4 29 = .ok (.ldc_w 267, 3) by decide +kernel) ?_
    refine g_iand rfl ?_
    intro z2682 h2683 h2684 h2685
    have h2686 : z2682 = 4 := h2683.trans (by decide)
    subst h2686
    refine g_istore_n (n := 0) (lo' := []) rfl rfl ?_
    refine g_iload_n (n := 0) rfl rfl ?_
    refine g_iload_n (n := 0) rfl rfl ?_
    refine g_bipush (by decide) rfl ?_
    refine g_iushr rfl ?_
    intro z2687 h2688 h2689 h2690
    have h2691 : z2687 = 0 := h2688.trans (by decide)
    subst h2691
    refine g_iaddE (z := 4) (by decide) rfl ?_
    refine g_istore_n (n := 0) (lo' := []) rfl rfl ?_
    refine g_iload_n (n := 0) rfl rfl ?_
    refine g_iload_n (n := 0) rfl rfl ?_
    refine g_bipush (by decide) rfl ?_
    refine g_iushr rfl ?_
    intro z2692 h2693 h2694 h2695
    have h2696 : z2692 = 0 := h2693.trans (by decide)
    subst h2696
    refine g_iaddE (z := 4) (by decide) rfl ?_
    refine g_istore_n (n := 0) (lo' := []) rfl rfl ?_
    refine g_iload_n (n := 0) rfl rfl ?_
    refine g_bipush (by decide) rfl ?_
    refine g_iand rfl ?_
    intro z2697 h2698 h2699 h2700
    have h2701 : z2697 = 4 := h2698.trans (by decide)
    subst h2701
    refine g_iret rfl rfl ?_
    exact ⟨_, _, rfl, rfl, by decide, by decide, by decide⟩
  · refine g_iload_n (n := 0) rfl rfl ?_
    refine g_iload_n (n := 0) rfl rfl ?_
    refine g_iconst rfl ?_
    refine g_iushr rfl ?_
    intro z2702 h2703 h2704 h2705
    have h2706 : z2702 = 27 := h2703.trans (by decide)
    subst h2706
    refine g_ldcw (n := 265) (x := 1431655765) (by decide +kernel) (show decode cJ6_bitCount_0f7a4 4 = .ok (.ldc_w 265, 3) by decide +kernel) ?_
    refine g_iand rfl ?_
    intro z2707 h2708 h2709 h2710
    have h2711 : z2707 = 17 := h2708.trans (by decide)
    subst h2711
    refine g_isubE (z := 37) (by decide) rfl ?_
    refine g_istore_n (n := 0) (lo' := []) rfl rfl ?_
    refine g_iload_n (n := 0) rfl rfl ?_
    refine g_ldcw (n := 266) (x := 858993459) (by decide +kernel) (show decode cJ6_bitCount_0f7a4 11 = .ok (.ldc_w 266, 3) by decide +kernel) ?_
    refine g_iand rfl ?_
    intro z2712 h2713 h2714 h2715
    have h2716 : z2712 = 33 := h2713.trans (by decide)
    subst h2716
    refine g_iload_n (n := 0) rfl rfl ?_
    refine g_iconst rfl ?_
    refine g_iushr rfl ?_
    intro z2717 h2718 h2719 h2720
    have h2721 : z2717 = 9 := h2718.trans (by decide)
    subst h2721
    refine g_ldcw (n := 266) (x := 858993459) (by decide +kernel) (show decode cJ6_bitCount_0f7a4 18 = .ok (.ldc_w 266, 3) by decide +kernel) ?_
    refine g_iand rfl ?_
    intro z2722 h2723 h2724 h2725
    have h2726 : z2722 = 1 := h2723.trans (by decide)
    subst h2726
    refine g_iaddE (z := 34) (by decide) rfl ?_
    refine g_istore_n (n := 0) (lo' := []) rfl rfl ?_
    refine g_iload_n (n := 0) rfl rfl ?_
    refine g_iload_n (n := 0) rfl rfl ?_
    refine g_iconst rfl ?_
    refine g_iushr rfl ?_
    intro z2727 h2728 h2729 h2730
    have h2731 : z2727 = 2 := h2728.trans (by decide)
    subst h2731
    refine g_iaddE (z := 36) (by decide) rfl ?_
    refine g_ldcw (n := 267) (x := 252645135) (by decide +kernel) (show decode cJ6_bitCount_0f7a4 29 = .ok (.ldc_w 267, 3) by decide +kernel) ?_
    refine g_iand rfl ?_
    intro z2732 h2733 h2734 h2735
    have h2736 : z2732 = 4 := h2733.trans (by decide)
    subst h2736
    refine g_istore_n (n := 0) (lo' := []) rfl rfl ?_
    refine g_iload_n (n := 0) rfl rfl ?_
    refine g_iload_n (n := 0) rfl rfl ?_
    refine g_bipush (by decide) rfl ?_
    refine g_iushr rfl ?_
    intro z2737 h2738 h2739 h2740
    have h2741 : z2737 = 0 := h2738.trans (by decide)
    subst h2741
    refine g_iaddE (z := 4) (by decide) rfl ?_
    refine g_istore_n (n := 0) (lo' := []) rfl rfl ?_
    refine g_iload_n (n := 0) rfl rfl ?_
    refine g_iload_n (n := 0) rfl rfl ?_
    refine g_bipush (by decide) rfl ?_
    refine g_iushr rfl ?_
    intro z2742 h2743 h2744 h2745
    have h2746 : z2742 = 0 := h2743.trans (by decide)
    subst h2746
    refine g_iaddE (z := 4) (by decide) rfl ?_
    refine g_istore_n (n := 0) (lo' := []) rfl rfl ?_
    refine g_iload_n (n := 0) rfl rfl ?_
    refine g_bipush (by decide) rfl ?_
    refine g_iand rfl ?_
    intro z2747 h2748 h2749 h2750
    have h2751 : z2747 = 4 := h2748.trans (by decide)
    subst h2751
    refine g_iret rfl rfl ?_
    exact ⟨_, _, rfl, rfl, by decide, by decide, by decide⟩
  · refine g_iload_n (n := 0) rfl rfl ?_
    refine g_iload_n (n := 0) rfl rfl ?_
    refine g_iconst rfl ?_
    refine g_iushr rfl ?_
    intro z2752 h2753 h2754 h2755
    have h2756 : z2752 = 27 := h2753.trans (by decide)
    subst h2756
    refine g_ldcw (n := 265) (x := 1431655765) (by decide +kernel) (show decode cJ6_bitCount_0f7a4 4 = .ok (.ldc_w 265, 3) by decide +kernel) ?_
    refine g_iand rfl ?_
    intro z2757 h2758 h2759 h2760
    have h2761 : z2757 = 17 := h2758.trans (by decide)
    subst h2761
    refine g_isubE (z := 38) (by decide) rfl ?_
    refine g_istore_n (n := 0) (lo' := []) rfl rfl ?_
    refine g_iload_n (n := 0) rfl rfl ?_
    refine g_ldcw (n := 266) (x := 858993459) (by decide +kernel) (show decode cJ6_bitCount_0f7a4 11 = .ok (.ldc_w 266, 3) by decide +kernel) ?_
    refine g_iand rfl ?_
    intro z2762 h2763 h2764 h2765
    have h2766 : z2762 = 34 := h2763.trans (by decide)
    subst h2766
    refine g_iload_n (n := 0) rfl rfl ?_
    refine g_iconst rfl ?_
    refine g_iushr rfl ?_
    intro z2767 h2768 h2769 h2770
    have h2771 : z2767 = 9 := h2768.trans (by decide)
    subst h2771
    refine g_ldcw (n := 266) (x := 858993459) (by decide +kernel) (show decode cJ6_bitCount_0f7a4 18 = .ok (.ldc_w 266, 3) by decide +kernel) ?_
    refine g_iand rfl ?_
    intro z2772 h2773 h2774 h2775
    have h2776 : z2772 = 1 := h2773.trans (by decide)
    subst h2776
    refine g_iaddE (z := 35) (by decide) rfl ?_
    refine g_istore_n (n := 0) (lo' := []) rfl rfl ?_
    refine g_iload_n (n := 0) rfl rfl ?_
    refine g_iload_n (n := 0) rfl rfl ?_
    refine g_iconst rfl ?_
    refine g_iushr rfl ?_
    intro z2777 h2778 h2779 h2780
    have h2781 : z2777 = 2 := h2778.trans (by decide)
    subst h2781
    refine g_iaddE (z := 37) (by decide) rfl ?_
    refine g_ldcw (n := 267) (x := 252645135) (by decide +kernel) (show decode cJ6_bitCount_0f7a4 29 = .ok (.ldc_w 267, 3) by decide +kernel) ?_
    refine g_iand rfl ?_
    intro z2782 h2783 h2784 h2785
    have h2786 : z2782 = 5 := h2783.trans (by decide)
    subst h2786
    refine g_istore_n (n := 0) (lo' := []) rfl rfl ?_
    refine g_iload_n (n := 0) rfl rfl ?_
    refine g_iload_n (n := 0) rfl rfl ?_
    refine g_bipush (by decide) rfl ?_
    refine g_iushr rfl ?_
    intro z2787 h2788 h2789 h2790
    have h2791 : z2787 = 0 := h2788.trans (by decide)
    subst h2791
    refine g_iaddE (z := 5) (by decide) rfl ?_
    refine g_istore_n (n := 0) (lo' := []) rfl rfl ?_
    refine g_iload_n (n := 0) rfl rfl ?_
    refine g_iload_n (n := 0) rfl rfl ?_
    refine g_bipush (by decide) rfl ?_
    refine g_iushr rfl ?_
    intro z2792 h2793 h2794 h2795
    have h2796 : z2792 = 0 := h2793.trans (by decide)
    subst h2796
    refine g_iaddE (z := 5) (by decide) rfl ?_
    refine g_istore_n (n := 0) (lo' := []) rfl rfl ?_
    refine g_iload_n (n := 0) rfl rfl ?_
    refine g_bipush (by decide) rfl ?_
    refine g_iand rfl ?_
    intro z2797 h2798 h2799 h2800
    have h2801 : z2797 = 5 := h2798.trans (by decide)
    subst h2801
    refine g_iret rfl rfl ?_
    exact ⟨_, _, rfl, rfl, by decide, by decide, by decide⟩
  · refine g_iload_n (n := 0) rfl rfl ?_
    refine g_iload_n (n := 0) rfl rfl ?_
    refine g_iconst rfl ?_
    refine g_iushr rfl ?_
    intro z2802 h2803 h2804 h2805
    have h2806 : z2802 = 28 := h2803.trans (by decide)
    subst h2806
    refine g_ldcw (n := 265) (x := 1431655765) (by decide +kernel) (show decode cJ6_bitCount_0f7a4 4 = .ok (.ldc_w 265, 3) by decide +kernel) ?_
    refine g_iand rfl ?_
    intro z2807 h2808 h2809 h2810
    have h2811 : z2807 = 20 := h2808.trans (by decide)
    subst h2811
    refine g_isubE (z := 36) (by decide) rfl ?_
    refine g_istore_n (n := 0) (lo' := []) rfl rfl ?_
    refine g_iload_n (n := 0) rfl rfl ?_
    refine g_ldcw (n := 266) (x := 858993459) (by decide +kernel) (show decode cJ6_bitCount_0f7a4 11 = .ok (.ldc_w 266, 3) by decide +kernel) ?_
    refine g_iand rfl ?_
    intro z2812 h2813 h2814 h2815
    have h2816 : z2812 = 32 := h2813.trans (by decide)
    subst h2816
    refine g_iload_n (n := 0) rfl rfl ?_
    refine g_iconst rfl ?_
    refine g_iushr rfl ?_
    intro z2817 h2818 h2819 h2820
    have h2821 : z2817 = 9 := h2818.trans (by decide)
    subst h2821
    refine g_ldcw (n := 266) (x := 858993459) (by decide +kernel) (show decode cJ6_bitCount_0f7a4 18 = .ok (.ldc_w 266, 3) by decide +kernel) ?_
    refine g_iand rfl ?_
    intro z2822 h2823 h2824 h2825
    have h2826 : z2822 = 1 := h2823.trans (by decide)
    subst h2826
    refine g_iaddE (z := 33) (by decide) rfl ?_
    refine g_istore_n (n := 0) (lo' := []) rfl rfl ?_
    refine g_iload_n (n := 0) rfl rfl ?_
    refine g_iload_n (n := 0) rfl rfl ?_
    refine g_iconst rfl ?_
    refine g_iushr rfl ?_
    intro z2827 h2828 h2829 h2830
    have h2831 : z2827 = 2 := h2828.trans (by decide)
    subst h2831
    refine g_iaddE (z := 35) (by decide) rfl ?_
    refine g_ldcw (n := 267) (x := 252645135) (by decide +kernel) (show decode cJ6_bitCount_0f7a4 29 = .ok (.ldc_w 267, 3) by decide +kernel) ?_
    refine g_iand rfl ?_
    intro z2832 h2833 h2834 h2835
    have h2836 : z2832 = 3 := h2833.trans (by decide)
    subst h2836
    refine g_istore_n (n := 0) (lo' := []) rfl rfl ?_
    refine g_iload_n (n := 0) rfl rfl ?_
    refine g_iload_n (n := 0) rfl rfl ?_
    refine g_bipush (by decide) rfl ?_
    refine g_iushr rfl ?_
    intro z2837 h2838 h2839 h2840
    have h2841 : z2837 = 0 := h2838.trans (by decide)
    subst h2841
    refine g_iaddE (z := 3) (by decide) rfl ?_
    refine g_istore_n (n := 0) (lo' := []) rfl rfl ?_
    refine g_iload_n (n := 0) rfl rfl ?_
    refine g_iload_n (n := 0) rfl rfl ?_
    refine g_bipush (by decide) rfl ?_
    refine g_iushr rfl ?_
    intro z2842 h2843 h2844 h2845
    have h2846 : z2842 = 0 := h2843.trans (by decide)
    subst h2846
    refine g_iaddE (z := 3) (by decide) rfl ?_
    refine g_istore_n (n := 0) (lo' := []) rfl rfl ?_
    refine g_iload_n (n := 0) rfl rfl ?_
    refine g_bipush (by decide) rfl ?_
    refine g_iand rfl ?_
    intro z2847 h2848 h2849 h2850
    have h2851 : z2847 = 3 := h2848.trans (by decide)
    subst h2851
    refine g_iret rfl rfl ?_
    exact ⟨_, _, rfl, rfl, by decide, by decide, by decide⟩
  · refine g_iload_n (n := 0) rfl rfl ?_
    refine g_iload_n (n := 0) rfl rfl ?_
    refine g_iconst rfl ?_
    refine g_iushr rfl ?_
    intro z2852 h2853 h2854 h2855
    have h2856 : z2852 = 28 := h2853.trans (by decide)
    subst h2856
    refine g_ldcw (n := 265) (x := 1431655765) (by decide +kernel) (show decode cJ6_bitCount_0f7a4 4 = .ok (.ldc_w 265, 3) by decide +kernel) ?_
    refine g_iand rfl ?_
    intro z2857 h2858 h2859 h2860
    have h2861 : z2857 = 20 := h2858.trans (by decide)
    subst h2861
    refine g_isubE (z := 37) (by decide) rfl ?_
    refine g_istore_n (n := 0) (lo' := []) rfl rfl ?_
    refine g_iload_n (n := 0) rfl rfl ?_
    refine g_ldcw (n := 266) (x := 858993459) (by decide +kernel) (show decode cJ6_bitCount_0f7a4 11 = .ok (.ldc_w 266, 3) by decide +kernel) ?_
    refine g_iand rfl ?_
    intro z2862 h2863 h2864 h2865
    have h2866 : z2862 = 33 := h2863.trans (by decide)
    subst h2866
    refine g_iload_n (n := 0) rfl rfl ?_
    refine g_iconst rfl ?_
    refine g_iushr rfl ?_
    intro z2867 h2868 h2869 h2870
    have h2871 : z2867 = 9 := h2868.trans (by decide)
    subst h2871
    refine g_ldcw (n := 266) (x := 858993459) (by decide +kernel) (show decode cJ6_bitCount_0f7a4 18 = .ok (.ldc_w 266, 3) by decide +kernel) ?_
    refine g_iand rfl ?_
    intro z2872 h2873 h2874 h2875
    have h2876 : z2872 = 1 := h2873.trans (by decide)
    subst h2876
    refine g_iaddE (z := 34) (by decide) rfl ?_
    refine g_istore_n (n := 0) (lo' := []) rfl rfl ?_
    refine g_iload_n (n := 0) rfl rfl ?_
    refine g_iload_n (n := 0) rfl rfl ?_
    refine g_iconst rfl ?_
    refine g_iushr rfl ?_
    intro z2877 h2878 h2879 h2880
    have h2881 : z2877 = 2 := h2878.trans (by decide)
    subst h2881
    refine g_iaddE (z := 36) (by decide) rfl ?_
    refine g_ldcw (n := 267) (x := 252645135) (by decide +kernel) (show decode cJ6_bitCount_0f7a4 29 = .ok (.ldc_w 267, 3) by decide +kernel) ?_
    refine g_iand rfl ?_
    intro z2882 h2883 h2884 h2885
    have h2886 : z2882 = 4 := h2883.trans (by decide)
    subst h2886
    refine g_istore_n (n := 0) (lo' := []) rfl rfl ?_
    refine g_iload_n (n := 0) rfl rfl ?_
    refine g_iload_n (n := 0) rfl rfl ?_
    refine g_bipush (by decide) rfl ?_
    refine g_iushr rfl ?_
    intro z2887 h2888 h2889 h2890
    have h2891 : z2887 = 0 := h2888.trans (by decide)
    subst h2891
    refine g_iaddE (z := 4) (by decide) rfl ?_
    refine g_istore_n (n := 0) (lo' := []) rfl rfl ?_
    refine g_iload_n (n := 0) rfl rfl ?_
    refine g_iload_n (n := 0) rfl rfl ?_
    refine g_bipush (by decide) rfl ?_
    refine g_iushr rfl ?_
    intro z2892 h2893 h2894 h2895
    have h2896 : z2892 = 0 := h2893.trans (by decide)
    subst h2896
    refine g_iaddE (z := 4) (by decide) rfl ?_
    refine g_istore_n (n := 0) (lo' := []) rfl rfl ?_
    refine g_iload_n (n := 0) rfl rfl ?_
    refine g_bipush (by decide) rfl ?_
    refine g_iand rfl ?_
    intro z2897 h2898 h2899 h2900
    have h2901 : z2897 = 4 := h2898.trans (by decide)
    subst h2901
    refine g_iret rfl rfl ?_
    exact ⟨_, _, rfl, rfl, by decide, by decide, by decide⟩
  · refine g_iload_n (n := 0) rfl rfl ?_
    refine g_iload_n (n := 0) rfl rfl ?_
    refine g_iconst rfl ?_
    refine g_iushr rfl ?_
    intro z2902 h2903 h2904 h2905
    have h2906 : z2902 = 29 := h2903.trans (by decide)
    subst h2906
    refine g_ldcw (n := 265) (x := 1431655765) (by decide +kernel) (show decode cJ6_bitCount_0f7a4 4 = .ok (.ldc_w 265, 3) by decide +kernel) ?_
    refine g_iand rfl ?_
    intro z2907 h2908 h2909 h2910
    have h2911 : z2907 = 21 := h2908.trans (by decide)
    subst h2911
    refine g_isubE (z := 37) (by decide) rfl ?_
    refine g_istore_n (n := 0) (lo' := []) rfl rfl ?_
    refine g_iload_n (n := 0) rfl rfl ?_
    refine g_ldcw (n := 266) (x := 858993459) (by decide +kernel) (show decode cJ6_bitCount_0f7a4 11 = .ok (.ldc_w 266, 3) by decide +kernel) ?_
    refine g_iand rfl ?_
    intro z2912 h2913 h2914 h2915
    have h2916 : z2912 = 33 := h2913.trans (by decide)
    subst h2916
    refine g_iload_n (n := 0) rfl rfl ?_
    refine g_iconst rfl ?_
    refine g_iushr rfl ?_
    intro z2917 h2918 h2919 h2920
    have h2921 : z2917 = 9 := h2918.trans (by decide)
    subst h2921
    refine g_ldcw (n := 266) (x := 858993459) (by decide +kernel) (show decode cJ6_bitCount_0f7a4 18 = .ok (.ldc_w 266, 3) by decide +kernel) ?_
    refine g_iand rfl ?_
    intro z2922 h2923 h2924 h2925
    have h2926 : z2922 = 1 := h2923.trans (by decide)
    subst h2926
    refine g_iaddE (z := 34) (by decide) rfl ?_
    refine g_istore_n (n := 0) (lo' := []) rfl rfl ?_
    refine g_iload_n (n := 0) rfl rfl ?_
    refine g_iload_n (n := 0) rfl rfl ?_
    refine g_iconst rfl ?_
    refine g_iushr rfl ?_
    intro z2927 h2928 h2929 h2930
    have h2931 : z2927 = 2 := h2928.trans (by decide)
    subst h2931
    refine g_iaddE (z := 36) (by decide) rfl ?_
    refine g_ldcw (n := 267) (x := 252645135) (by decide +kernel) (show decode cJ6_bitCount_0f7a4 29 = .ok (.ldc_w 267, 3) by decide +kernel) ?_
    refine g_iand rfl ?_
    intro z2932 h2933 h2934 h2935
    have h2936 : z2932 = 4 := h2933.trans (by decide)
    subst h2936
    refine g_istore_n (n := 0) (lo' := []) rfl rfl ?_
    refine g_iload_n (n := 0) rfl rfl ?_
    refine g_iload_n (n := 0) rfl rfl ?_
    refine g_bipush (by decide) rfl ?_
    refine g_iushr rfl ?_
    intro z2937 h2938 h2939 h2940
    have h2941 : z2937 = 0 := h2938.trans (by decide)
    subst h2941
    refine g_iaddE (z := 4) (by decide) rfl ?_
    refine g_istore_n (n := 0) (lo' := []) rfl rfl ?_
    refine g_iload_n (n := 0) rfl rfl ?_
    refine g_iload_n (n := 0) rfl rfl ?_
    refine g_bipush (by decide) rfl ?_
    refine g_iushr rfl ?_
    intro z2942 h2943 h2944 h2945
    have h2946 : z2942 = 0 := h2943.trans (by decide)
    subst h2946
    refine g_iaddE (z := 4) (by decide) rfl ?_
    refine g_istore_n (n := 0) (lo' := []) rfl rfl ?_
    refine g_iload_n (n := 0) rfl rfl ?_
    refine g_bipush (by decide) rfl ?_
    refine g_iand rfl ?_
    intro z2947 h2948 h2949 h2950
    have h2951 : z2947 = 4 := h2948.trans (by decide)
    subst h2951
    refine g_iret rfl rfl ?_
    exact ⟨_, _, rfl, rfl, by decide, by decide, by decide⟩
  · refine g_iload_n (n := 0) rfl rfl ?_
    refine g_iload_n (n := 0) rfl rfl ?_
    refine g_iconst rfl ?_
    refine g_iushr rfl ?_
    intro z2952 h2953 h2954 h2955
    have h2956 : z2952 = 29 := h2953.trans (by decide)
    subst h2956
    refine g_ldcw (n := 265) (x := 1431655765) (by decide +kernel) (show decode cJ6_bitCount_0f7a4 4 = .ok (.ldc_w 265, 3) by decide +kernel) ?_
    refine g_iand rfl ?_
    intro z2957 h2958 h2959 h2960
    have h2961 : z2957 = 21 := h2958.trans (by decide)
    subst h2961
    refine g_isubE (z := 38) (by decide) rfl ?_
    refine g_istore_n (n := 0) (lo' := []) rfl rfl ?_
    refine g_iload_n (n := 0) rfl rfl ?_
    refine g_ldcw (n := 266) (x := 858993459) (by decide +kernel) (show decode cJ6_bitCount_0f7a4 11 = .ok (.ldc_w 266, 3) by decide +kernel) ?_
    refine g_iand rfl ?_
    intro z2962 h2963 h2964 h2965
    have h2966 : z2962 = 34 := h2963.trans (by decide)
    subst h2966
    refine g_iload_n (n := 0) rfl rfl ?_
    refine g_iconst rfl ?_
    refine g_iushr rfl ?_
    intro z2967 h2968 h2969 h2970
    have h2971 : z2967 = 9 := h2968.trans (by decide)
    subst h2971
    refine g_ldcw (n := 266) (x := 858993459) (by decide +kernel) (show decode cJ6_bitCount_0f7a4 18 = .ok (.ldc_w 266, 3) by decide +kernel) ?_
    refine g_iand rfl ?_
    intro z2972 h2973 h2974 h2975
    have h2976 : z2972 = 1 := h2973.trans (by decide)
    subst h2976
    refine g_iaddE (z := 35) (by decide) rfl ?_
    refine g_istore_n (n := 0) (lo' := []) rfl rfl ?_
    refine g_iload_n (n := 0) rfl rfl ?_
    refine g_iload_n (n := 0) rfl rfl ?_
    refine g_iconst rfl ?_
    refine g_iushr rfl ?_
    intro z2977 h2978 h2979 h2980
    have h2981 : z2977 = 2 := h2978.trans (by decide)
    subst h2981
    refine g_iaddE (z := 37) (by decide) rfl ?_
    refine g_ldcw (n := 267) (x := 252645135) (by decide +kernel) (show decode cJ6_bitCount_0f7a4 29 = .ok (.ldc_w 267, 3) by decide +kernel) ?_
    refine g_iand rfl ?_
    intro z2982 h2983 h2984 h2985
    have h2986 : z2982 = 5 := h2983.trans (by decide)
    subst h2986
    refine g_istore_n (n := 0) (lo' := []) rfl rfl ?_
    refine g_iload_n (n := 0) rfl rfl ?_
    refine g_iload_n (n := 0) rfl rfl ?_
    refine g_bipush (by decide) rfl ?_
    refine g_iushr rfl ?_
    intro z2987 h2988 h2989 h2990
    have h2991 : z2987 = 0 := h2988.trans (by decide)
    subst h2991
    refine g_iaddE (z := 5) (by decide) rfl ?_
    refine g_istore_n (n := 0) (lo' := []) rfl rfl ?_
    refine g_iload_n (n := 0) rfl rfl ?_
    refine g_iload_n (n := 0) rfl rfl ?_
    refine g_bipush (by decide) rfl ?_
    refine g_iushr rfl ?_
    intro z2992 h2993 h2994 h2995
    have h2996 : z2992 = 0 := h2993.trans (by decide)
    subst h2996
    refine g_iaddE (z := 5) (by decide) rfl ?_
    refine g_istore_n (n := 0) (lo' := []) rfl rfl ?_
    refine g_iload_n (n := 0) rfl rfl ?_
    refine g_bipush (by decide) rfl ?_
    refine g_iand rfl ?_
    intro z2997 h2998 h2999 h3000
    have h3001 : z2997 = 5 := h2998.trans (by decide)
    subst h3001
    refine g_iret rfl rfl ?_
    exact ⟨_, _, rfl, rfl, by decide, by decide, by decide⟩
  · refine g_iload_n (n := 0) rfl rfl ?_
    refine g_iload_n (n := 0) rfl rfl ?_
    refine g_iconst rfl ?_
    refine g_iushr rfl ?_
    intro z3002 h3003 h3004 h3005
    have h3006 : z3002 = 30 := h3003.trans (by decide)
    subst h3006
    refine g_ldcw (n := 265) (x := 1431655765) (by decide +kernel) (show decode cJ6_bitCount_0f7a4 4 = .ok (.ldc_w 265, 3) by decide +kernel) ?_
    refine g_iand rfl ?_
    intro z3007 h3008 h3009 h3010
    have h3011 : z3007 = 20 := h3008.trans (by decide)
    subst h3011
    refine g_isubE (z := 40) (by decide) rfl ?_
    refine g_istore_n (n := 0) (lo' := []) rfl rfl ?_
    refine g_iload_n (n := 0) rfl rfl ?_
    refine g_ldcw (n := 266) (x := 858993459) (by decide +kernel) (show decode cJ6_bitCount_0f7a4 11 = .ok (.ldc_w 266, 3) by decide +kernel) ?_
    refine g_iand rfl ?_
    intro z3012 h3013 h3014 h3015
    have h3016 : z3012 = 32 := h3013.trans (by decide)
    subst h3016
    refine g_iload_n (n := 0) rfl rfl ?_
    refine g_iconst rfl ?_
    refine g_iushr rfl ?_
    intro z3017 h3018 h3019 h3020
    have h3021 : z3017 = 10 := h3018.trans (by decide)
    subst h3021
    refine g_ldcw (n := 266) (x := 858993459) (by decide +kernel) (show decode cJ6_bitCount_0f7a4 18 = .ok (.ldc_w 266, 3) by decide +kernel) ?_
    refine g_iand rfl ?_
    intro z3022 h3023 h3024 h3025
    have h3026 : z3022 = 2 := h3023.trans (by decide)
    subst h3026
    refine g_iaddE (z := 34) (by decide) rfl ?_
    refine g_istore_n (n := 0) (lo' := []) rfl rfl ?_
    refine g_iload_n (n := 0) rfl rfl ?_
    refine g_iload_n (n := 0) rfl rfl ?_
    refine g_iconst rfl ?_
    refine g_iushr rfl ?_
    intro z3027 h3028 h3029 h3030
    have h3031 : z3027 = 2 := h3028.trans (by decide)
    subst h3031
    refine g_iaddE (z := 36) (by decide) rfl ?_
    refine g_ldcw (n := 267) (x := 252645135) (by decide +kernel) (show decode cJ6_bitCount_0f7a4 29 = .ok (.ldc_w 267, 3) by decide +kernel) ?_
    refine g_iand rfl ?_
    intro z3032 h3033 h3034 h3035
    have h3036 : z3032 = 4 := h3033.trans (by decide)
    subst h3036
    refine g_istore_n (n := 0) (lo' := []) rfl rfl ?_
    refine g_iload_n (n := 0) rfl rfl ?_
    refine g_iload_n (n := 0) rfl rfl ?_
    refine g_bipush (by decide) rfl ?_
    refine g_iushr rfl ?_
    intro z3037 h3038 h3039 h3040
    have h3041 : z3037 = 0 := h3038.trans (by decide)
    subst h3041
    refine g_iaddE (z := 4) (by decide) rfl ?_
    refine g_istore_n (n := 0) (lo' := []) rfl rfl ?_
    refine g_iload_n (n := 0) rfl rfl ?_
    refine g_iload_n (n := 0) rfl rfl ?_
    refine g_bipush (by decide) rfl ?_
    refine g_iushr rfl ?_
    intro z3042 h3043 h3044 h3045
    have h3046 : z3042 = 0 := h3043.trans (by decide)
    subst h3046
    refine g_iaddE (z := 4) (by decide) rfl ?_
    refine g_istore_n (n := 0) (lo' := []) rfl rfl ?_
    refine g_iload_n (n := 0) rfl rfl ?_
    refine g_bipush (by decide) rfl ?_
    refine g_iand rfl ?_
    intro z3047 h3048 h3049 h3050
    have h3051 : z3047 = 4 := h3048.trans (by decide)
    subst h3051
    refine g_iret rfl rfl ?_
    exact ⟨_, _, rfl, rfl, by decide, by decide, by decide⟩
  · refine g_iload_n (n := 0) rfl rfl ?_
    refine g_iload_n (n := 0) rfl rfl ?_
    refine g_iconst rfl ?_
    refine g_iushr rfl ?_
    intro z3052 h3053 h3054 h3055
    have h3056 : z3052 = 30 := h3053.trans (by decide)
    subst h3056
    refine g_ldcw (n := 265) (x := 1431655765) (by decide +kernel) (show decode cJ6_bitCount_0f7a4 4 = .ok (.ldc_w 265, 3) by decide +kernel) ?_
    refine g_iand rfl ?_
    intro z3057 h3058 h3059 h3060
    have h3061 : z3057 = 20 := h3058.trans (by decide)
    subst h3061
    refine g_isubE (z := 41) (by decide) rfl ?_
    refine g_istore_n (n := 0) (lo' := []) rfl rfl ?_
    refine g_iload_n (n := 0) rfl rfl ?_
    refine g_ldcw (n := 266) (x := 858993459) (by decide +kernel) (show decode cJ6_bitCount_0f7a4 11 = .ok (.ldc_w 266, 3) by decide +kernel) ?_
    refine g_iand rfl ?_
    intro z3062 h3063 h3064 h3065
    have h3066 : z3062 = 33 := h3063.trans (by decide)
    subst h3066
    refine g_iload_n (n := 0) rfl rfl ?_
    refine g_iconst rfl ?_
    refine g_iushr rfl ?_
    intro z3067 h3068 h3069 h3070
    have h3071 : z3067 = 10 := h3068.trans (by decide)
    subst h3071
    refine g_ldcw (n := 266) (x := 858993459) (by decide +kernel) (show decode cJ6_bitCount_0f7a4 18 = .ok (.ldc_w 266, 3) by decide +kernel) ?_
    refine g_iand rfl ?_
    intro z3072 h3073 h3074 h3075
    have h3076 : z3072 = 2 := h3073.trans (by decide)
    subst h3076
    refine g_iaddE (z := 35) (by decide) rfl ?_
    refine g_istore_n (n := 0) (lo' := []) rfl rfl ?_
    refine g_iload_n (n := 0) rfl rfl ?_
    refine g_iload_n (n := 0) rfl rfl ?_
    refine g_iconst rfl ?_
    refine g_iushr rfl ?_
    intro z3077 h3078 h3079 h3080
    have h3081 : z3077 = 2 := h3078.trans (by decide)
    subst h3081
    refine g_iaddE (z := 37) (by decide) rfl ?_
    refine g_ldcw (n := 267) (x := 252645135) (by decide +kernel) (show decode cJ6_bitCount_0f7a4 29 = .ok (.ldc_w 267, 3) by decide +kernel) ?_
    refine g_iand rfl ?_
    intro z3082 h3083 h3084 h3085
    have h3086 : z3082 = 5 := h3083.trans (by decide)
    subst h3086
    refine g_istore_n (n := 0) (lo' := []) rfl rfl ?_
    refine g_iload_n (n := 0) rfl rfl ?_
    refine g_iload_n (n := 0) rfl rfl ?_
    refine g_bipush (by decide) rfl ?_
    refine g_iushr rfl ?_
    intro z3087 h3088 h3089 h3090
    have h3091 : z3087 = 0 := h3088.trans (by decide)
    subst h3091
    refine g_iaddE (z := 5) (by decide) rfl ?_
    refine g_istore_n (n := 0) (lo' := []) rfl rfl ?_
    refine g_iload_n (n := 0) rfl rfl ?_
    refine g_iload_n (n := 0) rfl rfl ?_
    refine g_bipush (by decide) rfl ?_
    refine g_iushr rfl ?_
    intro z3092 h3093 h3094 h3095
    have h3096 : z3092 = 0 := h3093.trans (by decide)
    subst h3096
    refine g_iaddE (z := 5) (by decide) rfl ?_
    refine g_istore_n (n := 0) (lo' := []) rfl rfl ?_
    refine g_iload_n (n := 0) rfl rfl ?_
    refine g_bipush (by decide) rfl ?_
    refine g_iand rfl ?_
    intro z3097 h3098 h3099 h3100
    have h3101 : z3097 = 5 := h3098.trans (by decide)
    subst h3101
    refine g_iret rfl rfl ?_
    exact ⟨_, _, rfl, rfl, by decide, by decide, by decide⟩
  · refine g_iload_n (n := 0) rfl rfl ?_
    refine g_iload_n (n := 0) rfl rfl ?_
    refine g_iconst rfl ?_
    refine g_iushr rfl ?_
    intro z3102 h3103 h3104 h3105
    have h3106 : z3102 = 31 := h3103.trans (by decide)
    subst h3106
    refine g_ldcw (n := 265) (x := 1431655765) (by decide +kernel) (show decode cJ6_bitCount_0f7a4 4 = .ok (.ldc_w 265, 3) by decide +kernel) ?_
    refine g_iand rfl ?_
    intro z3107 h3108 h3109 h3110
    have h3111 : z3107 = 21 := h3108.trans (by decide)
    subst h3111
    refine g_isubE (z := 41) (by decide) rfl ?_
    refine g_istore_n (n := 0) (lo' := []) rfl rfl ?_
    refine g_iload_n (n := 0) rfl rfl ?_
    refine g_ldcw (n := 266) (x := 858993459) (by decide +kernel) (show decode cJ6_bitCount_0f7a4 11 = .ok (.ldc_w 266, 3) by decide +kernel) ?_
    refine g_iand rfl ?_
    intro z3112 h3113 h3114 h3115
    have h3116 : z3112 = 33 := h3113.trans (by decide)
    subst h3116
    refine g_iload_n (n := 0) rfl rfl ?_
    refine g_iconst rfl ?_
    refine g_iushr rfl ?_
    intro z3117 h3118 h3119 h3120
    have h3121 : z3117 = 10 := h3118.trans (by decide)
    subst h3121
    refine g_ldcw (n := 266) (x := 858993459) (by decide +kernel) (show decode cJ6_bitCount_0f7a4 18 = .ok (.ldc_w 266, 3) by decide +kernel) ?_
    refine g_iand rfl ?_
    intro z3122 h3123 h3124 h3125
    have h3126 : z3122 = 2 := h3123.trans (by decide)
    subst h3126
    refine g_iaddE (z := 35) (by decide) rfl ?_
    refine g_istore_n (n := 0) (lo' := []) rfl rfl ?_
    refine g_iload_n (n := 0) rfl rfl ?_
    refine g_iload_n (n := 0) rfl rfl ?_
    refine g_iconst rfl ?_
    refine g_iushr rfl ?_
    intro z3127 h3128 h3129 h3130
    have h3131 : z3127 = 2 := h3128.trans (by decide)
    subst h3131
    refine g_iaddE (z := 37) (by decide) rfl ?_
    refine g_ldcw (n := 267) (x := 252645135) (by decide +kernel) (show decode cJ6_bitCount_0f7a4 29 = .ok (.ldc_w 267, 3) by decide +kernel) ?_
    refine g_iand rfl ?_
    intro z3132 h3133 h3134 h3135
    have h3136 : z3132 = 5 := h3133.trans (by decide)
    subst h3136
    refine g_istore_n (n := 0) (lo' := []) rfl rfl ?_
    refine g_iload_n (n := 0) rfl rfl ?_
    refine g_iload_n (n := 0) rfl rfl ?_
    refine g_bipush (by decide) rfl ?_
    refine g_iushr rfl ?_
    intro z3137 h3138 h3139 h3140
    have h3141 : z3137 = 0 := h3138.trans (by decide)
    subst h3141
    refine g_iaddE (z := 5) (by decide) rfl ?_
    refine g_istore_n (n := 0) (lo' := []) rfl rfl ?_
    refine g_iload_n (n := 0) rfl rfl ?_
    refine g_iload_n (n := 0) rfl rfl ?_
    refine g_bipush (by decide) rfl ?_
    refine g_iushr rfl ?_
    intro z3142 h3143 h3144 h3145
    have h3146 : z3142 = 0 := h3143.trans (by decide)
    subst h3146
    refine g_iaddE (z := 5) (by decide) rfl ?_
    refine g_istore_n (n := 0) (lo' := []) rfl rfl ?_
    refine g_iload_n (n := 0) rfl rfl ?_
    refine g_bipush (by decide) rfl ?_
    refine g_iand rfl ?_
    intro z3147 h3148 h3149 h3150
    have h3151 : z3147 = 5 := h3148.trans (by decide)
    subst h3151
    refine g_iret rfl rfl ?_
    exact ⟨_, _, rfl, rfl, by decide, by decide, by decide⟩
  · refine g_iload_n (n := 0) rfl rfl ?_
    refine g_iload_n (n := 0) rfl rfl ?_
    refine g_iconst rfl ?_
    refine g_iushr rfl ?_
    intro z3152 h3153 h3154 h3155
    have h3156 : z3152 = 31 := h3153.trans (by decide)
    subst h3156
    refine g_ldcw (n := 265) (x := 1431655765) (by decide +kernel) (show decode cJ6_bitCount_0f7a4 4 = .ok (.ldc_w 265, 3) by decide +kernel) ?_
    refine g_iand rfl ?_
    intro z3157 h3158 h3159 h3160
    have h3161 : z3157 = 21 := h3158.trans (by decide)
    subst h3161
    refine g_isubE (z := 42) (by decide) rfl ?_
    refine g_istore_n (n := 0) (lo' := []) rfl rfl ?_
    refine g_iload_n (n := 0) rfl rfl ?_
    refine g_ldcw (n := 266) (x := 858993459) (by decide +kernel) (show decode cJ6_bitCount_0f7a4 11 = .ok (.ldc_w 266, 3) by decide +kernel) ?_
    refine g_iand rfl ?_
    intro z3162 h3163 h3164 h3165
    have h3166 : z3162 = 34 := h3163.trans (by decide)
    subst h3166
    refine g_iload_n (n := 0) rfl rfl ?_
    refine g_iconst rfl ?_
    refine g_iushr rfl ?_
    intro z3167 h3168 h3169 h3170
    have h3171 : z3167 = 10 := h3168.trans (by decide)
    subst h3171
    refine g_ldcw (n := 266) (x := 858993459) (by decide +kernel) (show decode cJ6_bitCount_0f7a4 18 = .ok (.ldc_w 266, 3) by decide +kernel) ?_
    refine g_iand rfl ?_
    intro z3172 h3173 h3174 h3175
    have h3176 : z3172 = 2 := h3173.trans (by decide)
    subst h3176
    refine g_iaddE (z := 36) (by decide) rfl ?_
    refine g_istore_n (n := 0) (lo' := []) rfl rfl ?_
    refine g_iload_n (n := 0) rfl rfl ?_
    refine g_iload_n (n := 0) rfl rfl ?_
    refine g_iconst rfl ?_
    refine g_iushr rfl ?_
    intro z3177 h3178 h3179 h3180
    have h3181 : z3177 = 2 := h3178.trans (by decide)
    subst h3181
    refine g_iaddE (z := 38) (by decide) rfl ?_
    refine g_ldcw (n := 267) (x := 252645135) (by decide +kernel) (show decode cJ6_bitCount_0f7a4 29 = .ok (.ldc_w 267, 3) by decide +kernel) ?_
    refine g_iand rfl ?_
    intro z3182 h3183 h3184 h3185
    have h3186 : z3182 = 6 := h3183.trans (by decide)
    subst h3186
    refine g_istore_n (n := 0) (lo' := []) rfl rfl ?_
    refine g_iload_n (n := 0) rfl rfl ?_
    refine g_iload_n (n := 0) rfl rfl ?_
    refine g_bipush (by decide) rfl ?_
    refine g_iushr rfl ?_
    intro z3187 h3188 h3189 h3190
    have h3191 : z3187 = 0 := h3188.trans (by decide)
    subst h3191
    refine g_iaddE (z := 6) (by decide) rfl ?_
    refine g_istore_n (n := 0) (lo' := []) rfl rfl ?_
    refine g_iload_n (n := 0) rfl rfl ?_
    refine g_iload_n (n := 0) rfl rfl ?_
    refine g_bipush (by decide) rfl ?_
    refine g_iushr rfl ?_
    intro z3192 h3193 h3194 h3195
    have h3196 : z3192 = 0 := h3193.trans (by decide)
    subst h3196
    refine g_iaddE (z := 6) (by decide) rfl ?_
    refine g_istore_n (n := 0) (lo' := []) rfl rfl ?_
    refine g_iload_n (n := 0) rfl rfl ?_
    refine g_bipush (by decide) rfl ?_
    refine g_iand rfl ?_
    intro z3197 h3198 h3199 h3200
    have h3201 : z3197 = 6 := h3198.trans (by decide)
    subst h3201
    refine g_iret rfl rfl ?_
    exact ⟨_, _, rfl, rfl, by decide, by decide, by decide⟩
theorem c_readHungry {V : cg_V} {d q : Nat} (hd : 3 ≤ d) (hq : 64 ≤ q) {m : kM} (hm : kI m) (he : m.1 6 ≤ m.1 3) : cg_S V d q mX6_readHungry [vR 1, vR 9] (kl m) (R_I (fun z m' => (kI m') ∧ (fr [5, 6, 16] [] m m') ∧ ((z = 1 ∧ NUM (m.2.1 2) (m.1 3) 0 (m.1 13 - 1) (m.1 6) ≠ -1 ∧ hb (m.1 16) (NUM (m.2.1 2) (m.1 3) 0 (m.1 13 - 1) (m.1 6)) ≠ 1 ∧ pcn (m.1 16) < 4 ∧ m'.1 16 = stb (m.1 16) (NUM (m.2.1 2) (m.1 3) 0 (m.1 13 - 1) (m.1 6))) ∨ (z = 0 ∧ (NUM (m.2.1 2) (m.1 3) 0 (m.1 13 - 1) (m.1 6) = -1 ∨ hb (m.1 16) (NUM (m.2.1 2) (m.1 3) 0 (m.1 13 - 1) (m.1 6)) = 1 ∨ 4 ≤ pcn (m.1 16)))) ∧ (m'.1 5 = SK (m.2.1 2) (m.1 3) (m.1 6)) ∧ (m'.1 6 = EP (m.2.1 2) (m.1 3) (m.1 6)))) := by
  have hf0 : fr [5, 6, 16] [] m m := fr_rf m
  refine cg_of (List.mem_of_getElem? (show ae_MT[77]? = some mX6_readHungry from rfl)) (Nat.le_of_ble_eq_true rfl) ?_
  show cg_G V mX6_readHungry d q _ 0 [(0, vR 1), (1, vR 9)] [] (kl m) 0 0
  have h1 : 0 ≤ m.1 3 ∧ m.1 3 ≤ 200 := hm.1 3
  have h2 : 0 ≤ m.1 6 ∧ m.1 6 ≤ 200 := hm.1 6
  have h3 : 2 ≤ m.1 13 ∧ m.1 13 ≤ 6 := hm.1 13
  have h4 : 0 ≤ m.1 16 ∧ m.1 16 ≤ 63 := hm.1 16
  refine g_aload_n (n := 0) rfl rfl ?_
  refine g_iconst rfl ?_
  refine g_aload_n (n := 1) rfl rfl ?_
  refine g_getf (v := vI (m.1 13)) rfl (kl_9 _) rfl ?_
  refine g_iconst rfl ?_
  refine g_isub rfl ?_
  refine c_vI (i := 1) (ps := [vI (m.1 13 - 1), vI 0]) (r := []) (as := [vR 1, vI 0, vI (m.1 13 - 1)]) (cs' := 0) (sl' := 0) rfl rfl rfl rfl rfl rfl (kl_1 _) (c_nextNumber (d := d - 1) (q := q - (5 + 19)) (by omega) (by omega) hm (a := 0) (b := (m.1 13 - 1)) (show 0 ≤ 0 ∧ 0 ≤ 6 by omega) (show 0 ≤ (m.1 13 - 1) ∧ (m.1 13 - 1) ≤ 6 by omega) (by omega)) (by omega) (show 5 + 19 ≤ q by omega) (Nat.le_of_ble_eq_true rfl) (Nat.le_of_ble_eq_true rfl) rfl rfl rfl ?_
  rintro z5 m6 ⟨hm8, hc9, p10, p11, p12, p13, p14, p15⟩
  have hf16 : fr [5, 6, 16] [] m m6 := fr_tr hf0 (fr_le hc9 rfl rfl)
  have h17 : m6.1 3 = m.1 3 := hc9.1 3 rfl
  have h18 : 0 ≤ m6.1 3 ∧ m6.1 3 ≤ 200 := hm8.1 3
  have h19 : m6.1 13 = m.1 13 := hc9.1 13 rfl
  have h20 : 2 ≤ m6.1 13 ∧ m6.1 13 ≤ 6 := hm8.1 13
  have h21 : m6.1 16 = m.1 16 := hc9.1 16 rfl
  have h22 : 0 ≤ m6.1 16 ∧ m6.1 16 ≤ 63 := hm8.1 16
  refine g_istore_n (n := 2) (lo' := [(0, vR 1), (1, vR 9)]) rfl rfl ?_
  refine g_iload_n (n := 2) rfl rfl ?_
  refine g_iconst rfl ?_
  refine g_icmp_eq (by omega) (by omega) (by decide) (by decide) rfl ?_ ?_
  · intro kk23
    refine g_iconst rfl ?_
    refine g_zret rfl rfl (by omega) ?_
    have e0 : z5 = NUM (m.2.1 2) (m.1 3) 0 (m.1 13 - 1) (m.1 6) := p10
    have e16 : m6.1 16 = m.1 16 := hc9.1 16 rfl
    exact ⟨_, _, rfl, hm8, hf16, Or.inr ⟨rfl, by rw [← e0, ← e16]; omega⟩, p11, p12⟩
  · intro kk24
    refine g_aload_n (n := 1) rfl rfl ?_
    refine g_iload_n (n := 2) rfl rfl ?_
    refine c_vI (i := 9) (ps := [vI z5]) (r := []) (as := [vR 9, vI z5]) (cs' := 0) (sl' := 0) rfl rfl rfl rfl rfl rfl (kl_9 _) (c_isHungry9 (d := d - 1) (q := q - (2 + 19)) (by omega) (by omega) hm8 (r := z5) (show 0 ≤ z5 ∧ z5 ≤ 5 by omega)) (by omega) (show 2 + 19 ≤ q by omega) (Nat.le_of_ble_eq_true rfl) (Nat.le_of_ble_eq_true rfl) rfl rfl rfl ?_
    rintro z25 m26 ⟨rfl, p28⟩
    refine g_if_ne (by omega) (by omega) rfl ?_ ?_
    · intro kk29
      refine g_iconst rfl ?_
      refine g_zret rfl rfl (by omega) ?_
      have e0 : z5 = NUM (m.2.1 2) (m.1 3) 0 (m.1 13 - 1) (m.1 6) := p10
      have e16 : m6.1 16 = m.1 16 := hc9.1 16 rfl
      exact ⟨_, _, rfl, hm8, hf16, Or.inr ⟨rfl, by rw [← e0, ← e16]; omega⟩, p11, p12⟩
    · intro kk30
      refine g_aload_n (n := 1) rfl rfl ?_
      refine g_getf (v := vI (m6.1 16)) rfl (kl_9 _) rfl ?_
      refine c_sI (ps := [vI (m6.1 16)]) (r := []) (as := [vI (m6.1 16)]) (cs' := 0) (sl' := 0) rfl rfl rfl rfl rfl rfl (c_bitCount (d := d - 1) (q := q - (1 + 19)) (by omega) (by omega) hm8 (x := m6.1 16) (show 0 ≤ m6.1 16 ∧ m6.1 16 ≤ 63 by omega)) (by omega) (show 1 + 19 ≤ q by omega) (Nat.le_of_ble_eq_true rfl) (Nat.le_of_ble_eq_true rfl) rfl rfl rfl ?_
      rintro z31 m32 ⟨rfl, p34, p35, p36⟩
      refine g_iconst rfl ?_
      refine g_icmp_lt (by omega) (by omega) (by decide) (by decide) rfl ?_ ?_
      · intro kk37
        refine g_aload_n (n := 1) rfl rfl ?_
        refine g_dup rfl rfl ?_
        refine g_getf (v := vI (m6.1 16)) rfl (kl_9 _) rfl ?_
        refine g_iconst rfl ?_
        refine g_iload_n (n := 2) rfl rfl ?_
        refine g_ishl rfl ?_
        intro z38 h39 h40 h41
        refine g_ior rfl ?_
        intro z43 h44 h45 h46
        have h47 : z43 = stb (m6.1 16) z5 := b_stb h39 h44 (by omega) (by omega) (by omega) (by omega)
        have h48 := b_stb_rng (u := m6.1 16) (r := z5) (by omega) (by omega) (by omega) (by omega)
        refine g_putF (m' := (kF m6 16 z43)) rfl (kl_9 _) rfl rfl rfl rfl (kF_16 _ _) ?_
        have hm49 : kI (kF m6 16 z43) := kI_F hm8 16 (show (0 : Int) ≤ z43 by omega) (show z43 ≤ (63 : Int) by omega)
        have hf50 : fr [5, 6, 16] [] m (kF m6 16 z43) := fr_F hf16 16 _ rfl
        refine g_iconst rfl ?_
        refine g_zret rfl rfl (by omega) ?_
        have e0 : z5 = NUM (m.2.1 2) (m.1 3) 0 (m.1 13 - 1) (m.1 6) := p10
        have e16 : m6.1 16 = m.1 16 := hc9.1 16 rfl
        exact ⟨_, _, rfl, hm49, hf50, Or.inl ⟨rfl, by omega, by rw [← e0, ← e16]; omega, by rw [← e16]; omega, (show z43 = stb (m.1 16) _ by rw [← e0, ← e16]; omega)⟩, p11, p12⟩
      · intro kk51
        refine g_iconst rfl ?_
        refine g_zret rfl rfl (by omega) ?_
        have e0 : z5 = NUM (m.2.1 2) (m.1 3) 0 (m.1 13 - 1) (m.1 6) := p10
        have e16 : m6.1 16 = m.1 16 := hc9.1 16 rfl
        exact ⟨_, _, rfl, hm8, hf16, Or.inr ⟨rfl, by rw [← e0, ← e16]; omega⟩, p11, p12⟩
theorem c_readGuard {V : cg_V} {d q : Nat} (hd : 3 ≤ d) (hq : 64 ≤ q) {m : kM} (hm : kI m) (h_kG : kG m) (he : m.1 6 ≤ m.1 3) : cg_S V d q mX6_readGuard [vR 1, vR 9] (kl m) (R_I (fun z m' => (kI m') ∧ (fr [5, 6] [14] m m') ∧ ((z = 1 ∧ NUM (m.2.1 2) (m.1 3) 0 1 (m.1 6) ≠ -1 ∧ NUM (m.2.1 2) (m.1 3) 0 (m.1 13 - 1) (EP (m.2.1 2) (m.1 3) (m.1 6)) ≠ -1 ∧ m'.1 6 = EP (m.2.1 2) (m.1 3) (EP (m.2.1 2) (m.1 3) (m.1 6)) ∧ kG m') ∨ (z = 0 ∧ ((NUM (m.2.1 2) (m.1 3) 0 1 (m.1 6) = -1 ∧ m'.1 5 = SK (m.2.1 2) (m.1 3) (m.1 6)) ∨ (NUM (m.2.1 2) (m.1 3) 0 1 (m.1 6) ≠ -1 ∧ NUM (m.2.1 2) (m.1 3) 0 (m.1 13 - 1) (EP (m.2.1 2) (m.1 3) (m.1 6)) = -1 ∧ m'.1 5 = SK (m.2.1 2) (m.1 3) (EP (m.2.1 2) (m.1 3) (m.1 6)))))))) := by
  have hf0 : fr [5, 6] [14] m m := fr_rf m
  refine cg_of (List.mem_of_getElem? (show ae_MT[78]? = some mX6_readGuard from rfl)) (Nat.le_of_ble_eq_true rfl) ?_
  show cg_G V mX6_readGuard d q _ 0 [(0, vR 1), (1, vR 9)] [] (kl m) 0 0
  have h1 : 0 ≤ m.1 3 ∧ m.1 3 ≤ 200 := hm.1 3
  have h2 : 0 ≤ m.1 6 ∧ m.1 6 ≤ 200 := hm.1 6
  have h3 : 2 ≤ m.1 13 ∧ m.1 13 ≤ 6 := hm.1 13
  refine g_aload_n (n := 0) rfl rfl ?_
  refine g_iconst rfl ?_
  refine g_iconst rfl ?_
  refine c_vI (i := 1) (ps := [vI 1, vI 0]) (r := []) (as := [vR 1, vI 0, vI 1]) (cs' := 0) (sl' := 0) rfl rfl rfl rfl rfl rfl (kl_1 _) (c_nextNumber (d := d - 1) (q := q - (5 + 19)) (by omega) (by omega) hm (a := 0) (b := 1) (show 0 ≤ 0 ∧ 0 ≤ 6 by omega) (show 0 ≤ 1 ∧ 1 ≤ 6 by omega) (by omega)) (by omega) (show 5 + 19 ≤ q by omega) (Nat.le_of_ble_eq_true rfl) (Nat.le_of_ble_eq_true rfl) rfl rfl rfl ?_
  rintro z4 m5 ⟨hm7, hc8, p9, p10, p11, p12, p13, p14⟩
  have hf15 : fr [5, 6] [14] m m5 := fr_tr hf0 (fr_le hc8 rfl rfl)
  have h16 : m5.1 3 = m.1 3 := hc8.1 3 rfl
  have h17 : 0 ≤ m5.1 3 ∧ m5.1 3 ≤ 200 := hm7.1 3
  have h18 : m5.1 13 = m.1 13 := hc8.1 13 rfl
  have h19 : 2 ≤ m5.1 13 ∧ m5.1 13 ≤ 6 := hm7.1 13
  have t20 : kG m5 := kG_fr hc8 rfl rfl h_kG
  refine g_istore_n (n := 2) (lo' := [(0, vR 1), (1, vR 9)]) rfl rfl ?_
  refine g_iload_n (n := 2) rfl rfl ?_
  refine g_iconst rfl ?_
  refine g_icmp_ne (by omega) (by omega) (by decide) (by decide) rfl ?_ ?_
  · intro kk21
    have eTa : m5.2.1 2 = m.2.1 2 := hc8.2.1 2 rfl
    have eNa : m5.1 3 = m.1 3 := hc8.1 3 rfl
    have eRa : m5.1 13 = m.1 13 := hc8.1 13 rfl
    have eDa : m5.1 14 = m.1 14 := hc8.1 14 rfl
    have hEa := EP_rng (t := m.2.1 2) he
    have eP : m5.1 6 = EP (m.2.1 2) (m.1 3) (m.1 6) := p11
    have hea : m5.1 6 ≤ m5.1 3 := by omega
    refine g_aload_n (n := 1) rfl rfl ?_
    refine g_getf (v := vR 14) rfl (kl_9 _) rfl ?_
    refine g_iload_n (n := 2) rfl rfl ?_
    refine g_aload_n (n := 0) rfl rfl ?_
    refine g_iconst rfl ?_
    refine g_aload_n (n := 1) rfl rfl ?_
    refine g_getf (v := vI (m5.1 13)) rfl (kl_9 _) rfl ?_
    refine g_iconst rfl ?_
    refine g_isub rfl ?_
    have h22 : 0 ≤ m5.1 6 ∧ m5.1 6 ≤ 200 := hm7.1 6
    refine c_vI (i := 1) (ps := [vI (m5.1 13 - 1), vI 0]) (r := [vI z4, vR 14]) (as := [vR 1, vI 0, vI (m5.1 13 - 1)]) (cs' := 0) (sl' := 0) rfl rfl rfl rfl rfl rfl (kl_1 _) (c_nextNumber (d := d - 1) (q := q - (5 + 19)) (by omega) (by omega) hm7 (a := 0) (b := (m5.1 13 - 1)) (show 0 ≤ 0 ∧ 0 ≤ 6 by omega) (show 0 ≤ (m5.1 13 - 1) ∧ (m5.1 13 - 1) ≤ 6 by omega) (by omega)) (by omega) (show 5 + 19 ≤ q by omega) (Nat.le_of_ble_eq_true rfl) (Nat.le_of_ble_eq_true rfl) rfl rfl rfl ?_
    rintro z23 m24 ⟨hm26, hc27, p28, p29, p30, p31, p32, p33⟩
    have hf34 : fr [5, 6] [14] m m24 := fr_tr hf15 (fr_le hc27 rfl rfl)
    have h35 : m24.1 3 = m5.1 3 := hc27.1 3 rfl
    have h36 : 0 ≤ m24.1 3 ∧ m24.1 3 ≤ 200 := hm26.1 3
    have h37 : m24.1 13 = m5.1 13 := hc27.1 13 rfl
    have h38 : 2 ≤ m24.1 13 ∧ m24.1 13 ≤ 6 := hm26.1 13
    have t39 : kG m24 := kG_fr hc27 rfl rfl t20
    have f0 : z23 = NUM (m.2.1 2) (m.1 3) 0 (m.1 13 - 1) (EP (m.2.1 2) (m.1 3) (m.1 6)) := by rw [p28, eTa, eNa, eRa, eP]
    have f1 : m24.1 5 = SK (m.2.1 2) (m.1 3) (EP (m.2.1 2) (m.1 3) (m.1 6)) := by rw [p29, eTa, eNa, eP]
    have f2 : m24.1 6 = EP (m.2.1 2) (m.1 3) (EP (m.2.1 2) (m.1 3) (m.1 6)) := by rw [p30, eTa, eNa, eP]
    refine g_iAst (f := m24.2.1 14) (m' := (kA m24 14 (up (m24.2.1 14) z4 z23))) rfl (kl_14 _) (by decide) (by omega) (by omega) (kA_14 _ _) ?_
    have hm40 : kI (kA m24 14 (up (m24.2.1 14) z4 z23)) := kI_U hm26 14 rfl (show ((-1) : Int) ≤ z23 by omega) (show z23 ≤ (5 : Int) by omega)
    have hf41 : fr [5, 6] [14] m (kA m24 14 (up (m24.2.1 14) z4 z23)) := fr_A hf34 14 _ rfl
    refine g_aload_n (n := 1) rfl rfl ?_
    refine g_getf (v := vR 14) rfl (kl_9 _) rfl ?_
    refine g_iload_n (n := 2) rfl rfl ?_
    refine g_iald (f := up (m24.2.1 14) z4 z23) rfl (kl_14 _) (by decide) (by omega) (by omega) ?_
    rw [up_same]
    refine g_iconst rfl ?_
    refine g_icmp_eq (by omega) (by omega) (by decide) (by decide) rfl ?_ ?_
    · intro kk42
      refine g_iconst rfl ?_
      refine g_zret rfl rfl (by omega) ?_
      exact ⟨_, _, rfl, hm40, hf41, Or.inr ⟨rfl, Or.inr ⟨by omega, by omega, f1⟩⟩⟩
    · intro kk43
      refine g_iconst rfl ?_
      refine g_goto rfl ?_
      refine g_zret rfl rfl (by omega) ?_
      have hG9 : kG (kA m24 14 (up (m24.2.1 14) z4 z23)) := by
        have hg := kG_fr hc27 rfl rfl (kG_fr hc8 rfl rfl h_kG)
        refine ⟨hg.1, hg.2.1, hg.2.2.1, ?_, ?_⟩
        · show 0 ≤ up (m24.2.1 14) z4 z23 0; by_cases e : (0 : Int) = z4; exact (by rw [← e, up_same]; omega); exact (by rw [up_ne _ e]; exact hg.2.2.2.1)
        · show 0 ≤ up (m24.2.1 14) z4 z23 1; by_cases e : (1 : Int) = z4; exact (by rw [← e, up_same]; omega); exact (by rw [up_ne _ e]; exact hg.2.2.2.2)
      exact ⟨_, _, rfl, hm40, hf41, Or.inl ⟨rfl, by omega, by omega, f2, hG9⟩⟩
  · intro kk44
    refine g_iconst rfl ?_
    refine g_zret rfl rfl (by omega) ?_
    exact ⟨_, _, rfl, hm7, hf15, Or.inr ⟨rfl, Or.inl ⟨by omega, p10⟩⟩⟩
theorem c_readDoor {V : cg_V} {d q : Nat} (hd : 3 ≤ d) (hq : 64 ≤ q) {m : kM} (hm : kI m) {k : Int} (h_k : 0 ≤ k ∧ k ≤ 5) (he : m.1 6 ≤ m.1 3) : cg_S V d q mX6_readDoor [vR 1, vR 9, vI k] (kl m) (R_I (fun z m' => (kI m') ∧ (fr [5, 6, 14] [10, 11, 12, 13] m m') ∧ ((z = 1 ∧ m.1 14 < 10 ∧ NUM (m.2.1 2) (m.1 3) 0 (m.1 13 - 1) (m.1 6) ≠ -1 ∧ (NUM (m.2.1 2) (m.1 3) 0 (m.1 13 - 1) (EP (m.2.1 2) (m.1 3) (m.1 6)) ≠ -1 ∧ NUM (m.2.1 2) (m.1 3) 0 (m.1 13 - 1) (EP (m.2.1 2) (m.1 3) (m.1 6)) ≠ NUM (m.2.1 2) (m.1 3) 0 (m.1 13 - 1) (m.1 6)) ∧ NUM (m.2.1 2) (m.1 3) 0 1 (EP (m.2.1 2) (m.1 3) (EP (m.2.1 2) (m.1 3) (m.1 6))) ≠ -1 ∧ m'.1 6 = EP (m.2.1 2) (m.1 3) (EP (m.2.1 2) (m.1 3) (EP (m.2.1 2) (m.1 3) (m.1 6))) ∧ m'.1 14 = m.1 14 + 1 ∧ m'.2.1 10 = up (m.2.1 10) (m.1 14) (NUM (m.2.1 2) (m.1 3) 0 (m.1 13 - 1) (m.1 6)) ∧ m'.2.1 11 = up (m.2.1 11) (m.1 14) (NUM (m.2.1 2) (m.1 3) 0 (m.1 13 - 1) (EP (m.2.1 2) (m.1 3) (m.1 6))) ∧ m'.2.1 12 = up (m.2.1 12) (m.1 14) k ∧ m'.2.1 13 = up (m.2.1 13) (m.1 14) (NUM (m.2.1 2) (m.1 3) 0 1 (EP (m.2.1 2) (m.1 3) (EP (m.2.1 2) (m.1 3) (m.1 6))))) ∨ (z = 0 ∧ ((10 ≤ m.1 14 ∧ m'.1 5 = m.1 5) ∨ (m.1 14 < 10 ∧ NUM (m.2.1 2) (m.1 3) 0 (m.1 13 - 1) (m.1 6) = -1 ∧ m'.1 5 = SK (m.2.1 2) (m.1 3) (m.1 6)) ∨ (m.1 14 < 10 ∧ NUM (m.2.1 2) (m.1 3) 0 (m.1 13 - 1) (m.1 6) ≠ -1 ∧ (NUM (m.2.1 2) (m.1 3) 0 (m.1 13 - 1) (EP (m.2.1 2) (m.1 3) (m.1 6)) = -1 ∨ NUM (m.2.1 2) (m.1 3) 0 (m.1 13 - 1) (EP (m.2.1 2) (m.1 3) (m.1 6)) = NUM (m.2.1 2) (m.1 3) 0 (m.1 13 - 1) (m.1 6)) ∧ m'.1 5 = SK (m.2.1 2) (m.1 3) (EP (m.2.1 2) (m.1 3) (m.1 6))) ∨ (m.1 14 < 10 ∧ NUM (m.2.1 2) (m.1 3) 0 (m.1 13 - 1) (m.1 6) ≠ -1 ∧ (NUM (m.2.1 2) (m.1 3) 0 (m.1 13 - 1) (EP (m.2.1 2) (m.1 3) (m.1 6)) ≠ -1 ∧ NUM (m.2.1 2) (m.1 3) 0 (m.1 13 - 1) (EP (m.2.1 2) (m.1 3) (m.1 6)) ≠ NUM (m.2.1 2) (m.1 3) 0 (m.1 13 - 1) (m.1 6)) ∧ NUM (m.2.1 2) (m.1 3) 0 1 (EP (m.2.1 2) (m.1 3) (EP (m.2.1 2) (m.1 3) (m.1 6))) = -1 ∧ m'.1 5 = SK (m.2.1 2) (m.1 3) (EP (m.2.1 2) (m.1 3) (EP (m.2.1 2) (m.1 3) (m.1 6))))))))) := by
  have hf0 : fr [5, 6, 14] [10, 11, 12, 13] m m := fr_rf m
  refine cg_of (List.mem_of_getElem? (show ae_MT[79]? = some mX6_readDoor from rfl)) (Nat.le_of_ble_eq_true rfl) ?_
  show cg_G V mX6_readDoor d q _ 0 [(0, vR 1), (1, vR 9), (2, vI k)] [] (kl m) 0 0
  have h1 : 0 ≤ m.1 3 ∧ m.1 3 ≤ 200 := hm.1 3
  have h2 : 0 ≤ m.1 5 ∧ m.1 5 ≤ 200 := hm.1 5
  have h3 : 0 ≤ m.1 6 ∧ m.1 6 ≤ 200 := hm.1 6
  have h4 : 2 ≤ m.1 13 ∧ m.1 13 ≤ 6 := hm.1 13
  have h5 : 0 ≤ m.1 14 ∧ m.1 14 ≤ 10 := hm.1 14
  refine g_aload_n (n := 1) rfl rfl ?_
  refine g_getf (v := vI (m.1 14)) rfl (kl_9 _) rfl ?_
  refine g_bipush (by decide) rfl ?_
  refine g_icmp_lt (by omega) (by omega) (by decide) (by decide) rfl ?_ ?_
  · intro kk6
    refine g_aload_n (n := 0) rfl rfl ?_
    refine g_iconst rfl ?_
    refine g_aload_n (n := 1) rfl rfl ?_
    refine g_getf (v := vI (m.1 13)) rfl (kl_9 _) rfl ?_
    refine g_iconst rfl ?_
    refine g_isub rfl ?_
    refine c_vI (i := 1) (ps := [vI (m.1 13 - 1), vI 0]) (r := []) (as := [vR 1, vI 0, vI (m.1 13 - 1)]) (cs' := 0) (sl' := 0) rfl rfl rfl rfl rfl rfl (kl_1 _) (c_nextNumber (d := d - 1) (q := q - (5 + 19)) (by omega) (by omega) hm (a := 0) (b := (m.1 13 - 1)) (show 0 ≤ 0 ∧ 0 ≤ 6 by omega) (show 0 ≤ (m.1 13 - 1) ∧ (m.1 13 - 1) ≤ 6 by omega) (by omega)) (by omega) (show 5 + 19 ≤ q by omega) (Nat.le_of_ble_eq_true rfl) (Nat.le_of_ble_eq_true rfl) rfl rfl rfl ?_
    rintro z7 m8 ⟨hm10, hc11, p12, p13, p14, p15, p16, p17⟩
    have hf18 : fr [5, 6, 14] [10, 11, 12, 13] m m8 := fr_tr hf0 (fr_le hc11 rfl rfl)
    have h19 : m8.1 3 = m.1 3 := hc11.1 3 rfl
    have h20 : 0 ≤ m8.1 3 ∧ m8.1 3 ≤ 200 := hm10.1 3
    have h21 : m8.1 13 = m.1 13 := hc11.1 13 rfl
    have h22 : 2 ≤ m8.1 13 ∧ m8.1 13 ≤ 6 := hm10.1 13
    have h23 : m8.1 14 = m.1 14 := hc11.1 14 rfl
    have h24 : 0 ≤ m8.1 14 ∧ m8.1 14 ≤ 10 := hm10.1 14
    refine g_istore_n (n := 3) (lo' := [(0, vR 1), (1, vR 9), (2, vI k)]) rfl rfl ?_
    refine g_iload_n (n := 3) rfl rfl ?_
    refine g_iconst rfl ?_
    refine g_icmp_ne (by omega) (by omega) (by decide) (by decide) rfl ?_ ?_
    · intro kk25
      have eTa : m8.2.1 2 = m.2.1 2 := hc11.2.1 2 rfl
      have eNa : m8.1 3 = m.1 3 := hc11.1 3 rfl
      have eRa : m8.1 13 = m.1 13 := hc11.1 13 rfl
      have eDa : m8.1 14 = m.1 14 := hc11.1 14 rfl
      have hEa := EP_rng (t := m.2.1 2) he
      have eP : m8.1 6 = EP (m.2.1 2) (m.1 3) (m.1 6) := p14
      have hea : m8.1 6 ≤ m8.1 3 := by omega
      refine g_aload_n (n := 0) rfl rfl ?_
      refine g_iconst rfl ?_
      refine g_aload_n (n := 1) rfl rfl ?_
      refine g_getf (v := vI (m8.1 13)) rfl (kl_9 _) rfl ?_
      refine g_iconst rfl ?_
      refine g_isub rfl ?_
      have h26 : 0 ≤ m8.1 6 ∧ m8.1 6 ≤ 200 := hm10.1 6
      refine c_vI (i := 1) (ps := [vI (m8.1 13 - 1), vI 0]) (r := []) (as := [vR 1, vI 0, vI (m8.1 13 - 1)]) (cs' := 0) (sl' := 0) rfl rfl rfl rfl rfl rfl (kl_1 _) (c_nextNumber (d := d - 1) (q := q - (5 + 19)) (by omega) (by omega) hm10 (a := 0) (b := (m8.1 13 - 1)) (show 0 ≤ 0 ∧ 0 ≤ 6 by omega) (show 0 ≤ (m8.1 13 - 1) ∧ (m8.1 13 - 1) ≤ 6 by omega) (by omega)) (by omega) (show 5 + 19 ≤ q by omega) (Nat.le_of_ble_eq_true rfl) (Nat.le_of_ble_eq_true rfl) rfl rfl rfl ?_
      rintro z27 m28 ⟨hm30, hc31, p32, p33, p34, p35, p36, p37⟩
      have hf38 : fr [5, 6, 14] [10, 11, 12, 13] m m28 := fr_tr hf18 (fr_le hc31 rfl rfl)
      have h39 : m28.1 3 = m8.1 3 := hc31.1 3 rfl
      have h40 : 0 ≤ m28.1 3 ∧ m28.1 3 ≤ 200 := hm30.1 3
      have h41 : m28.1 13 = m8.1 13 := hc31.1 13 rfl
      have h42 : 2 ≤ m28.1 13 ∧ m28.1 13 ≤ 6 := hm30.1 13
      have h43 : m28.1 14 = m8.1 14 := hc31.1 14 rfl
      have h44 : 0 ≤ m28.1 14 ∧ m28.1 14 ≤ 10 := hm30.1 14
      have f0 : z27 = NUM (m.2.1 2) (m.1 3) 0 (m.1 13 - 1) (EP (m.2.1 2) (m.1 3) (m.1 6)) := by rw [p32, eTa, eNa, eRa, eP]
      have f1 : m28.1 5 = SK (m.2.1 2) (m.1 3) (EP (m.2.1 2) (m.1 3) (m.1 6)) := by rw [p33, eTa, eNa, eP]
      have f2 : m28.1 6 = EP (m.2.1 2) (m.1 3) (EP (m.2.1 2) (m.1 3) (m.1 6)) := by rw [p34, eTa, eNa, eP]
      refine g_istore (n := 4) (lo' := [(3, vI z7), (0, vR 1), (1, vR 9), (2, vI k)]) rfl rfl ?_
      refine g_iload (n := 4) rfl rfl ?_
      refine g_iconst rfl ?_
      refine g_icmp_eq (by omega) (by omega) (by decide) (by decide) rfl ?_ ?_
      · intro kk45
        refine g_iconst rfl ?_
        refine g_zret rfl rfl (by omega) ?_
        exact ⟨_, _, rfl, hm30, hf38, Or.inr ⟨rfl, Or.inr (Or.inr (Or.inl ⟨by omega, by omega, by omega, f1⟩))⟩⟩
      · intro kk46
        refine g_iload (n := 4) rfl rfl ?_
        refine g_iload_n (n := 3) rfl rfl ?_
        refine g_icmp_ne (by omega) (by omega) (by omega) (by omega) rfl ?_ ?_
        · intro kk47
          have eTb : m28.2.1 2 = m.2.1 2 := (hc31.2.1 2 rfl).trans eTa
          have eNb : m28.1 3 = m.1 3 := (hc31.1 3 rfl).trans eNa
          have eRb : m28.1 13 = m.1 13 := (hc31.1 13 rfl).trans eRa
          have eDb : m28.1 14 = m.1 14 := (hc31.1 14 rfl).trans eDa
          have hEb := EP_rng (t := m.2.1 2) (show EP (m.2.1 2) (m.1 3) (m.1 6) ≤ m.1 3 by omega)
          have heb : m28.1 6 ≤ m28.1 3 := by omega
          refine g_aload_n (n := 0) rfl rfl ?_
          refine g_iconst rfl ?_
          refine g_iconst rfl ?_
          have h48 : 0 ≤ m28.1 6 ∧ m28.1 6 ≤ 200 := hm30.1 6
          refine c_vI (i := 1) (ps := [vI 1, vI 0]) (r := []) (as := [vR 1, vI 0, vI 1]) (cs' := 0) (sl' := 0) rfl rfl rfl rfl rfl rfl (kl_1 _) (c_nextNumber (d := d - 1) (q := q - (5 + 19)) (by omega) (by omega) hm30 (a := 0) (b := 1) (show 0 ≤ 0 ∧ 0 ≤ 6 by omega) (show 0 ≤ 1 ∧ 1 ≤ 6 by omega) (by omega)) (by omega) (show 5 + 19 ≤ q by omega) (Nat.le_of_ble_eq_true rfl) (Nat.le_of_ble_eq_true rfl) rfl rfl rfl ?_
          rintro z49 m50 ⟨hm52, hc53, p54, p55, p56, p57, p58, p59⟩
          have hf60 : fr [5, 6, 14] [10, 11, 12, 13] m m50 := fr_tr hf38 (fr_le hc53 rfl rfl)
          have h61 : m50.1 3 = m28.1 3 := hc53.1 3 rfl
          have h62 : 0 ≤ m50.1 3 ∧ m50.1 3 ≤ 200 := hm52.1 3
          have h63 : m50.1 13 = m28.1 13 := hc53.1 13 rfl
          have h64 : 2 ≤ m50.1 13 ∧ m50.1 13 ≤ 6 := hm52.1 13
          have h65 : m50.1 14 = m28.1 14 := hc53.1 14 rfl
          have h66 : 0 ≤ m50.1 14 ∧ m50.1 14 ≤ 10 := hm52.1 14
          have g0 : z49 = NUM (m.2.1 2) (m.1 3) 0 1 (EP (m.2.1 2) (m.1 3) (EP (m.2.1 2) (m.1 3) (m.1 6))) := by rw [p54, eTb, eNb, f2]
          have g1 : m50.1 5 = SK (m.2.1 2) (m.1 3) (EP (m.2.1 2) (m.1 3) (EP (m.2.1 2) (m.1 3) (m.1 6))) := by rw [p55, eTb, eNb, f2]
          have g2 : m50.1 6 = EP (m.2.1 2) (m.1 3) (EP (m.2.1 2) (m.1 3) (EP (m.2.1 2) (m.1 3) (m.1 6))) := by rw [p56, eTb, eNb, f2]
          have eDc : m50.1 14 = m.1 14 := (hc53.1 14 rfl).trans eDb
          refine g_istore (n := 5) (lo' := [(4, vI z27), (3, vI z7), (0, vR 1), (1, vR 9), (2, vI k)]) rfl rfl ?_
          refine g_iload (n := 5) rfl rfl ?_
          refine g_iconst rfl ?_
          refine g_icmp_ne (by omega) (by omega) (by decide) (by decide) rfl ?_ ?_
          · intro kk67
            refine g_aload_n (n := 1) rfl rfl ?_
            refine g_iload_n (n := 2) rfl rfl ?_
            refine g_iload_n (n := 3) rfl rfl ?_
            refine g_iload (n := 4) rfl rfl ?_
            refine g_iload (n := 5) rfl rfl ?_
            refine c_vV (i := 9) (ps := [vI z49, vI z27, vI z7, vI k]) (r := []) (as := [vR 9, vI k, vI z7, vI z27, vI z49]) (cs' := 0) (sl' := 0) rfl rfl rfl rfl rfl rfl (kl_9 _) (c_addDoor9 (d := d - 1) (q := q - (5 + 19)) (by omega) (by omega) hm52 (k := k) (f := z7) (t := z27) (w := z49) (show 0 ≤ k ∧ k ≤ 5 by omega) (show 0 ≤ z7 ∧ z7 ≤ 5 by omega) (show 0 ≤ z27 ∧ z27 ≤ 5 by omega) (show 0 ≤ z49 ∧ z49 ≤ 1 by omega) (by omega)) (by omega) (show 5 + 19 ≤ q by omega) (Nat.le_of_ble_eq_true rfl) (Nat.le_of_ble_eq_true rfl) rfl rfl rfl ?_
            rintro m69 ⟨hm71, hc72, p73, p74, p75, p76, p77⟩
            have hf78 : fr [5, 6, 14] [10, 11, 12, 13] m m69 := fr_tr hf60 (fr_le hc72 rfl rfl)
            have h79 : m69.1 3 = m50.1 3 := hc72.1 3 rfl
            have h80 : 0 ≤ m69.1 3 ∧ m69.1 3 ≤ 200 := hm71.1 3
            have h81 : m69.1 13 = m50.1 13 := hc72.1 13 rfl
            have h82 : 2 ≤ m69.1 13 ∧ m69.1 13 ≤ 6 := hm71.1 13
            refine g_iconst rfl ?_
            refine g_zret rfl rfl (by omega) ?_
            exact ⟨_, _, rfl, hm71, hf78, Or.inl ⟨rfl, by omega, by omega, by omega, by omega, (hc72.1 6 rfl).trans g2, p73.trans (by rw [eDc]), (by rw [p74, hc53.2.1 10 rfl, hc31.2.1 10 rfl, hc11.2.1 10 rfl, eDc, p12]), (by rw [p75, hc53.2.1 11 rfl, hc31.2.1 11 rfl, hc11.2.1 11 rfl, eDc, f0]), (by rw [p76, hc53.2.1 12 rfl, hc31.2.1 12 rfl, hc11.2.1 12 rfl, eDc]), (by rw [p77, hc53.2.1 13 rfl, hc31.2.1 13 rfl, hc11.2.1 13 rfl, eDc, g0])⟩⟩
          · intro kk83
            refine g_iconst rfl ?_
            refine g_zret rfl rfl (by omega) ?_
            exact ⟨_, _, rfl, hm52, hf60, Or.inr ⟨rfl, Or.inr (Or.inr (Or.inr ⟨by omega, by omega, by omega, by omega, g1⟩))⟩⟩
        · intro kk84
          refine g_iconst rfl ?_
          refine g_zret rfl rfl (by omega) ?_
          exact ⟨_, _, rfl, hm30, hf38, Or.inr ⟨rfl, Or.inr (Or.inr (Or.inl ⟨by omega, by omega, by omega, f1⟩))⟩⟩
    · intro kk85
      refine g_iconst rfl ?_
      refine g_zret rfl rfl (by omega) ?_
      exact ⟨_, _, rfl, hm10, hf18, Or.inr ⟨rfl, Or.inr (Or.inl ⟨by omega, by omega, p13⟩)⟩⟩
  · intro kk86
    refine g_iconst rfl ?_
    refine g_zret rfl rfl (by omega) ?_
    exact ⟨_, _, rfl, hm, hf0, Or.inr ⟨rfl, Or.inl ⟨by omega, rfl⟩⟩⟩
