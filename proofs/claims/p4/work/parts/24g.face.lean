/-! ===== contracts: the class, the face of texts ===== -/
def WR (f : Int → Int) (p n x : Int) : Int → Int := fun j => if p ≤ j ∧ j < p + n then x / 2 ^ (Int.toNat (8 * (j - p))) % 256 else f j
theorem WR_0 (f : Int → Int) (p x : Int) : WR f p 0 x = f := by
  funext j
  exact if_neg (by omega)
theorem WR_up {f : Int → Int} {p i x v : Int} (h0 : 0 ≤ i) (hv : v = x / 2 ^ (Int.toNat (8 * i)) % 256) : up (WR f p i x) (p + i) v = WR f p (i + 1) x := by
  funext j
  by_cases e : j = p + i
  · subst e
    rw [up_same]
    show _ = if p ≤ p + i ∧ p + i < p + (i + 1) then _ else _
    rw [if_pos (by omega), hv, show p + i - p = i by omega]
  · rw [up_ne _ e]
    show (if p ≤ j ∧ j < p + i then _ else _) = if p ≤ j ∧ j < p + (i + 1) then _ else _
    by_cases q : p ≤ j ∧ j < p + i
    · rw [if_pos q, if_pos (by omega)]
    · rw [if_neg q, if_neg (by omega)]
theorem c_copy93 {V : cg_V} {d q : Nat} (hd : 1 ≤ d) (hq : 80 ≤ q) {m : kM} (hm : kI m) : cg_S V d q mX2_copyFrom [vR 9, vR 3] (kl m) (R_V (fun m' => (kI m') ∧ (fr [13, 14, 15, 16, 17, 18] [10, 11, 12, 13, 14] m m') ∧ (m'.1 13 = m.1 7) ∧ (m'.1 14 = m.1 8) ∧ (m'.1 15 = m.1 9) ∧ (m'.1 16 = m.1 10) ∧ (m'.1 17 = m.1 11) ∧ (m'.1 18 = m.1 12) ∧ (m'.2.1 10 = m.2.1 4) ∧ (m'.2.1 11 = m.2.1 5) ∧ (m'.2.1 12 = m.2.1 6) ∧ (m'.2.1 13 = m.2.1 7) ∧ (m'.2.1 14 = m.2.1 8) ∧ (kG m'))) := by
  have hf0 : fr [13, 14, 15, 16, 17, 18] [10, 11, 12, 13, 14] m m := fr_rf m
  refine cg_of (List.mem_of_getElem? (show ae_MT[42]? = some mX2_copyFrom from rfl)) (Nat.le_of_ble_eq_true rfl) ?_
  show cg_G V mX2_copyFrom d q _ 0 [(0, vR 9), (1, vR 3)] [] (kl m) 0 0
  have h1 : 2 ≤ m.1 7 ∧ m.1 7 ≤ 6 := hm.1 7
  have h2 : 0 ≤ m.1 8 ∧ m.1 8 ≤ 10 := hm.1 8
  have h3 : 0 ≤ m.1 9 ∧ m.1 9 ≤ 5 := hm.1 9
  have h4 : 0 ≤ m.1 10 ∧ m.1 10 ≤ 63 := hm.1 10
  have h5 : 0 ≤ m.1 11 ∧ m.1 11 ≤ 3 := hm.1 11
  have h6 : 0 ≤ m.1 12 ∧ m.1 12 ≤ 5 := hm.1 12
  refine g_aload_n (n := 0) rfl rfl ?_
  refine g_aload_n (n := 1) rfl rfl ?_
  refine g_getf (v := vI (m.1 7)) rfl (kl_3 _) rfl ?_
  refine g_putF (m' := (kF m 13 (m.1 7))) rfl (kl_9 _) rfl rfl rfl rfl (kF_13 _ _) ?_
  have hm7 : kI (kF m 13 (m.1 7)) := kI_F hm 13 (show (2 : Int) ≤ m.1 7 by omega) (show m.1 7 ≤ (6 : Int) by omega)
  have hf8 : fr [13, 14, 15, 16, 17, 18] [10, 11, 12, 13, 14] m (kF m 13 (m.1 7)) := fr_F hf0 13 _ rfl
  refine g_aload_n (n := 0) rfl rfl ?_
  refine g_aload_n (n := 1) rfl rfl ?_
  refine g_getf (v := vI (m.1 8)) rfl (kl_3 _) rfl ?_
  refine g_putF (m' := (kF (kF m 13 (m.1 7)) 14 (m.1 8))) rfl (kl_9 _) rfl rfl rfl rfl (kF_14 _ _) ?_
  have hm9 : kI (kF (kF m 13 (m.1 7)) 14 (m.1 8)) := kI_F hm7 14 (show (0 : Int) ≤ m.1 8 by omega) (show m.1 8 ≤ (10 : Int) by omega)
  have hf10 : fr [13, 14, 15, 16, 17, 18] [10, 11, 12, 13, 14] m (kF (kF m 13 (m.1 7)) 14 (m.1 8)) := fr_F hf8 14 _ rfl
  refine g_aload_n (n := 0) rfl rfl ?_
  refine g_aload_n (n := 1) rfl rfl ?_
  refine g_getf (v := vI (m.1 9)) rfl (kl_3 _) rfl ?_
  refine g_putF (m' := (kF (kF (kF m 13 (m.1 7)) 14 (m.1 8)) 15 (m.1 9))) rfl (kl_9 _) rfl rfl rfl rfl (kF_15 _ _) ?_
  have hm11 : kI (kF (kF (kF m 13 (m.1 7)) 14 (m.1 8)) 15 (m.1 9)) := kI_F hm9 15 (show ((-1) : Int) ≤ m.1 9 by omega) (show m.1 9 ≤ (5 : Int) by omega)
  have hf12 : fr [13, 14, 15, 16, 17, 18] [10, 11, 12, 13, 14] m (kF (kF (kF m 13 (m.1 7)) 14 (m.1 8)) 15 (m.1 9)) := fr_F hf10 15 _ rfl
  refine g_aload_n (n := 0) rfl rfl ?_
  refine g_aload_n (n := 1) rfl rfl ?_
  refine g_getf (v := vI (m.1 10)) rfl (kl_3 _) rfl ?_
  refine g_putF (m' := (kF (kF (kF (kF m 13 (m.1 7)) 14 (m.1 8)) 15 (m.1 9)) 16 (m.1 10))) rfl (kl_9 _) rfl rfl rfl rfl (kF_16 _ _) ?_
  have hm13 : kI (kF (kF (kF (kF m 13 (m.1 7)) 14 (m.1 8)) 15 (m.1 9)) 16 (m.1 10)) := kI_F hm11 16 (show (0 : Int) ≤ m.1 10 by omega) (show m.1 10 ≤ (63 : Int) by omega)
  have hf14 : fr [13, 14, 15, 16, 17, 18] [10, 11, 12, 13, 14] m (kF (kF (kF (kF m 13 (m.1 7)) 14 (m.1 8)) 15 (m.1 9)) 16 (m.1 10)) := fr_F hf12 16 _ rfl
  refine g_aload_n (n := 0) rfl rfl ?_
  refine g_aload_n (n := 1) rfl rfl ?_
  refine g_getf (v := vI (m.1 11)) rfl (kl_3 _) rfl ?_
  refine g_putF (m' := (kF (kF (kF (kF (kF m 13 (m.1 7)) 14 (m.1 8)) 15 (m.1 9)) 16 (m.1 10)) 17 (m.1 11))) rfl (kl_9 _) rfl rfl rfl rfl (kF_17 _ _) ?_
  have hm15 : kI (kF (kF (kF (kF (kF m 13 (m.1 7)) 14 (m.1 8)) 15 (m.1 9)) 16 (m.1 10)) 17 (m.1 11)) := kI_F hm13 17 (show ((-1) : Int) ≤ m.1 11 by omega) (show m.1 11 ≤ (3 : Int) by omega)
  have hf16 : fr [13, 14, 15, 16, 17, 18] [10, 11, 12, 13, 14] m (kF (kF (kF (kF (kF m 13 (m.1 7)) 14 (m.1 8)) 15 (m.1 9)) 16 (m.1 10)) 17 (m.1 11)) := fr_F hf14 17 _ rfl
  refine g_aload_n (n := 0) rfl rfl ?_
  refine g_aload_n (n := 1) rfl rfl ?_
  refine g_getf (v := vI (m.1 12)) rfl (kl_3 _) rfl ?_
  refine g_putF (m' := (kF (kF (kF (kF (kF (kF m 13 (m.1 7)) 14 (m.1 8)) 15 (m.1 9)) 16 (m.1 10)) 17 (m.1 11)) 18 (m.1 12))) rfl (kl_9 _) rfl rfl rfl rfl (kF_18 _ _) ?_
  have hm17 : kI (kF (kF (kF (kF (kF (kF m 13 (m.1 7)) 14 (m.1 8)) 15 (m.1 9)) 16 (m.1 10)) 17 (m.1 11)) 18 (m.1 12)) := kI_F hm15 18 (show ((-1) : Int) ≤ m.1 12 by omega) (show m.1 12 ≤ (5 : Int) by omega)
  have hf18 : fr [13, 14, 15, 16, 17, 18] [10, 11, 12, 13, 14] m (kF (kF (kF (kF (kF (kF m 13 (m.1 7)) 14 (m.1 8)) 15 (m.1 9)) 16 (m.1 10)) 17 (m.1 11)) 18 (m.1 12)) := fr_F hf16 18 _ rfl
  refine g_aload_n (n := 1) rfl rfl ?_
  refine g_getf (v := vR 4) rfl (kl_3 _) rfl ?_
  refine g_iconst rfl ?_
  refine g_aload_n (n := 0) rfl rfl ?_
  refine g_getf (v := vR 10) rfl (kl_9 _) rfl ?_
  refine g_iconst rfl ?_
  refine g_bipush (by decide) rfl ?_
  refine g_Acp (n := 10) (f := m.2.1 10) (g := m.2.1 4) (m' := (kA (kF (kF (kF (kF (kF (kF m 13 (m.1 7)) 14 (m.1 8)) 15 (m.1 9)) 16 (m.1 10)) 17 (m.1 11)) 18 (m.1 12)) 10 (m.2.1 4))) rfl rfl (kl_10 _) (kl_4 _) (by decide) (by omega) (show _ + 60 ≤ q from Nat.le_trans (Nat.le_of_ble_eq_true rfl : _ ≤ 80) (by omega)) (kA_10 _ _) ?_
  have hm19 : kI (kA (kF (kF (kF (kF (kF (kF m 13 (m.1 7)) 14 (m.1 8)) 15 (m.1 9)) 16 (m.1 10)) 17 (m.1 11)) 18 (m.1 12)) 10 (m.2.1 4)) := kI_A hm17 10 (fun j a b => (by have h9 := hm17.2 4 j a b; have h8 : (0 : Int) ≤ m.2.1 4 j ∧ m.2.1 4 j ≤ 5 := h9; exact (show (0 : Int) ≤ m.2.1 4 j ∧ m.2.1 4 j ≤ 5 by omega)))
  have hf20 : fr [13, 14, 15, 16, 17, 18] [10, 11, 12, 13, 14] m (kA (kF (kF (kF (kF (kF (kF m 13 (m.1 7)) 14 (m.1 8)) 15 (m.1 9)) 16 (m.1 10)) 17 (m.1 11)) 18 (m.1 12)) 10 (m.2.1 4)) := fr_A hf18 10 _ rfl
  refine g_aload_n (n := 1) rfl rfl ?_
  refine g_getf (v := vR 5) rfl (kl_3 _) rfl ?_
  refine g_iconst rfl ?_
  refine g_aload_n (n := 0) rfl rfl ?_
  refine g_getf (v := vR 11) rfl (kl_9 _) rfl ?_
  refine g_iconst rfl ?_
  refine g_bipush (by decide) rfl ?_
  refine g_Acp (n := 10) (f := m.2.1 11) (g := m.2.1 5) (m' := (kA (kA (kF (kF (kF (kF (kF (kF m 13 (m.1 7)) 14 (m.1 8)) 15 (m.1 9)) 16 (m.1 10)) 17 (m.1 11)) 18 (m.1 12)) 10 (m.2.1 4)) 11 (m.2.1 5))) rfl rfl (kl_11 _) (kl_5 _) (by decide) (by omega) (show _ + 60 ≤ q from Nat.le_trans (Nat.le_of_ble_eq_true rfl : _ ≤ 80) (by omega)) (kA_11 _ _) ?_
  have hm21 : kI (kA (kA (kF (kF (kF (kF (kF (kF m 13 (m.1 7)) 14 (m.1 8)) 15 (m.1 9)) 16 (m.1 10)) 17 (m.1 11)) 18 (m.1 12)) 10 (m.2.1 4)) 11 (m.2.1 5)) := kI_A hm19 11 (fun j a b => (by have h9 := hm19.2 5 j a b; have h8 : (0 : Int) ≤ m.2.1 5 j ∧ m.2.1 5 j ≤ 5 := h9; exact (show (0 : Int) ≤ m.2.1 5 j ∧ m.2.1 5 j ≤ 5 by omega)))
  have hf22 : fr [13, 14, 15, 16, 17, 18] [10, 11, 12, 13, 14] m (kA (kA (kF (kF (kF (kF (kF (kF m 13 (m.1 7)) 14 (m.1 8)) 15 (m.1 9)) 16 (m.1 10)) 17 (m.1 11)) 18 (m.1 12)) 10 (m.2.1 4)) 11 (m.2.1 5)) := fr_A hf20 11 _ rfl
  refine g_aload_n (n := 1) rfl rfl ?_
  refine g_getf (v := vR 6) rfl (kl_3 _) rfl ?_
  refine g_iconst rfl ?_
  refine g_aload_n (n := 0) rfl rfl ?_
  refine g_getf (v := vR 12) rfl (kl_9 _) rfl ?_
  refine g_iconst rfl ?_
  refine g_bipush (by decide) rfl ?_
  refine g_Acp (n := 10) (f := m.2.1 12) (g := m.2.1 6) (m' := (kA (kA (kA (kF (kF (kF (kF (kF (kF m 13 (m.1 7)) 14 (m.1 8)) 15 (m.1 9)) 16 (m.1 10)) 17 (m.1 11)) 18 (m.1 12)) 10 (m.2.1 4)) 11 (m.2.1 5)) 12 (m.2.1 6))) rfl rfl (kl_12 _) (kl_6 _) (by decide) (by omega) (show _ + 60 ≤ q from Nat.le_trans (Nat.le_of_ble_eq_true rfl : _ ≤ 80) (by omega)) (kA_12 _ _) ?_
  have hm23 : kI (kA (kA (kA (kF (kF (kF (kF (kF (kF m 13 (m.1 7)) 14 (m.1 8)) 15 (m.1 9)) 16 (m.1 10)) 17 (m.1 11)) 18 (m.1 12)) 10 (m.2.1 4)) 11 (m.2.1 5)) 12 (m.2.1 6)) := kI_A hm21 12 (fun j a b => (by have h9 := hm21.2 6 j a b; have h8 : (0 : Int) ≤ m.2.1 6 j ∧ m.2.1 6 j ≤ 5 := h9; exact (show (0 : Int) ≤ m.2.1 6 j ∧ m.2.1 6 j ≤ 5 by omega)))
  have hf24 : fr [13, 14, 15, 16, 17, 18] [10, 11, 12, 13, 14] m (kA (kA (kA (kF (kF (kF (kF (kF (kF m 13 (m.1 7)) 14 (m.1 8)) 15 (m.1 9)) 16 (m.1 10)) 17 (m.1 11)) 18 (m.1 12)) 10 (m.2.1 4)) 11 (m.2.1 5)) 12 (m.2.1 6)) := fr_A hf22 12 _ rfl
  refine g_aload_n (n := 1) rfl rfl ?_
  refine g_getf (v := vR 7) rfl (kl_3 _) rfl ?_
  refine g_iconst rfl ?_
  refine g_aload_n (n := 0) rfl rfl ?_
  refine g_getf (v := vR 13) rfl (kl_9 _) rfl ?_
  refine g_iconst rfl ?_
  refine g_bipush (by decide) rfl ?_
  refine g_Acp (n := 10) (f := m.2.1 13) (g := m.2.1 7) (m' := (kA (kA (kA (kA (kF (kF (kF (kF (kF (kF m 13 (m.1 7)) 14 (m.1 8)) 15 (m.1 9)) 16 (m.1 10)) 17 (m.1 11)) 18 (m.1 12)) 10 (m.2.1 4)) 11 (m.2.1 5)) 12 (m.2.1 6)) 13 (m.2.1 7))) rfl rfl (kl_13 _) (kl_7 _) (by decide) (by omega) (show _ + 60 ≤ q from Nat.le_trans (Nat.le_of_ble_eq_true rfl : _ ≤ 80) (by omega)) (kA_13 _ _) ?_
  have hm25 : kI (kA (kA (kA (kA (kF (kF (kF (kF (kF (kF m 13 (m.1 7)) 14 (m.1 8)) 15 (m.1 9)) 16 (m.1 10)) 17 (m.1 11)) 18 (m.1 12)) 10 (m.2.1 4)) 11 (m.2.1 5)) 12 (m.2.1 6)) 13 (m.2.1 7)) := kI_A hm23 13 (fun j a b => (by have h9 := hm23.2 7 j a b; have h8 : (0 : Int) ≤ m.2.1 7 j ∧ m.2.1 7 j ≤ 1 := h9; exact (show (0 : Int) ≤ m.2.1 7 j ∧ m.2.1 7 j ≤ 1 by omega)))
  have hf26 : fr [13, 14, 15, 16, 17, 18] [10, 11, 12, 13, 14] m (kA (kA (kA (kA (kF (kF (kF (kF (kF (kF m 13 (m.1 7)) 14 (m.1 8)) 15 (m.1 9)) 16 (m.1 10)) 17 (m.1 11)) 18 (m.1 12)) 10 (m.2.1 4)) 11 (m.2.1 5)) 12 (m.2.1 6)) 13 (m.2.1 7)) := fr_A hf24 13 _ rfl
  refine g_aload_n (n := 1) rfl rfl ?_
  refine g_getf (v := vR 8) rfl (kl_3 _) rfl ?_
  refine g_iconst rfl ?_
  refine g_aload_n (n := 0) rfl rfl ?_
  refine g_getf (v := vR 14) rfl (kl_9 _) rfl ?_
  refine g_iconst rfl ?_
  refine g_iconst rfl ?_
  refine g_Acp (n := 2) (f := m.2.1 14) (g := m.2.1 8) (m' := (kA (kA (kA (kA (kA (kF (kF (kF (kF (kF (kF m 13 (m.1 7)) 14 (m.1 8)) 15 (m.1 9)) 16 (m.1 10)) 17 (m.1 11)) 18 (m.1 12)) 10 (m.2.1 4)) 11 (m.2.1 5)) 12 (m.2.1 6)) 13 (m.2.1 7)) 14 (m.2.1 8))) rfl rfl (kl_14 _) (kl_8 _) (by decide) (by omega) (show _ + 60 ≤ q from Nat.le_trans (Nat.le_of_ble_eq_true rfl : _ ≤ 80) (by omega)) (kA_14 _ _) ?_
  have hm27 : kI (kA (kA (kA (kA (kA (kF (kF (kF (kF (kF (kF m 13 (m.1 7)) 14 (m.1 8)) 15 (m.1 9)) 16 (m.1 10)) 17 (m.1 11)) 18 (m.1 12)) 10 (m.2.1 4)) 11 (m.2.1 5)) 12 (m.2.1 6)) 13 (m.2.1 7)) 14 (m.2.1 8)) := kI_A hm25 14 (fun j a b => (by have h9 := hm25.2 8 j a b; have h8 : (0 : Int) ≤ m.2.1 8 j ∧ m.2.1 8 j ≤ 5 := h9; exact (show ((-1) : Int) ≤ m.2.1 8 j ∧ m.2.1 8 j ≤ 5 by omega)))
  have hf28 : fr [13, 14, 15, 16, 17, 18] [10, 11, 12, 13, 14] m (kA (kA (kA (kA (kA (kF (kF (kF (kF (kF (kF m 13 (m.1 7)) 14 (m.1 8)) 15 (m.1 9)) 16 (m.1 10)) 17 (m.1 11)) 18 (m.1 12)) 10 (m.2.1 4)) 11 (m.2.1 5)) 12 (m.2.1 6)) 13 (m.2.1 7)) 14 (m.2.1 8)) := fr_A hf26 14 _ rfl
  refine g_vret rfl rfl ?_
  exact ⟨_, rfl, hm27, hf28, rfl, rfl, rfl, rfl, rfl, rfl, rfl, rfl, rfl, rfl, rfl, (by have a1 : 0 ≤ m.1 9 ∧ m.1 9 ≤ 5 := hm.1 9; have a2 : 0 ≤ m.1 11 ∧ m.1 11 ≤ 3 := hm.1 11; have a3 : 0 ≤ m.1 12 ∧ m.1 12 ≤ 5 := hm.1 12; exact ⟨a1.1, a2.1, a3.1, (hm.2 8 0 (by decide) (by decide)).1, (hm.2 8 1 (by decide) (by decide)).1⟩)⟩
theorem c_copy39 {V : cg_V} {d q : Nat} (hd : 1 ≤ d) (hq : 80 ≤ q) {m : kM} (hm : kI m) (h_kG : kG m) : cg_S V d q mX2_copyFrom [vR 3, vR 9] (kl m) (R_V (fun m' => (kI m') ∧ (fr [7, 8, 9, 10, 11, 12] [4, 5, 6, 7, 8] m m') ∧ (m'.1 7 = m.1 13) ∧ (m'.1 8 = m.1 14) ∧ (m'.1 9 = m.1 15) ∧ (m'.1 10 = m.1 16) ∧ (m'.1 11 = m.1 17) ∧ (m'.1 12 = m.1 18) ∧ (m'.2.1 4 = m.2.1 10) ∧ (m'.2.1 5 = m.2.1 11) ∧ (m'.2.1 6 = m.2.1 12) ∧ (m'.2.1 7 = m.2.1 13) ∧ (m'.2.1 8 = m.2.1 14))) := by
  have hf0 : fr [7, 8, 9, 10, 11, 12] [4, 5, 6, 7, 8] m m := fr_rf m
  refine cg_of (List.mem_of_getElem? (show ae_MT[42]? = some mX2_copyFrom from rfl)) (Nat.le_of_ble_eq_true rfl) ?_
  show cg_G V mX2_copyFrom d q _ 0 [(0, vR 3), (1, vR 9)] [] (kl m) 0 0
  have h1 : 2 ≤ m.1 13 ∧ m.1 13 ≤ 6 := hm.1 13
  have h2 : 0 ≤ m.1 14 ∧ m.1 14 ≤ 10 := hm.1 14
  have h3 : (-1) ≤ m.1 15 ∧ m.1 15 ≤ 5 := hm.1 15
  have h4 : 0 ≤ m.1 16 ∧ m.1 16 ≤ 63 := hm.1 16
  have h5 : (-1) ≤ m.1 17 ∧ m.1 17 ≤ 3 := hm.1 17
  have h6 : (-1) ≤ m.1 18 ∧ m.1 18 ≤ 5 := hm.1 18
  have hg := h_kG
  unfold kG at hg
  refine g_aload_n (n := 0) rfl rfl ?_
  refine g_aload_n (n := 1) rfl rfl ?_
  refine g_getf (v := vI (m.1 13)) rfl (kl_9 _) rfl ?_
  refine g_putF (m' := (kF m 7 (m.1 13))) rfl (kl_3 _) rfl rfl rfl rfl (kF_7 _ _) ?_
  have hm7 : kI (kF m 7 (m.1 13)) := kI_F hm 7 (show (2 : Int) ≤ m.1 13 by omega) (show m.1 13 ≤ (6 : Int) by omega)
  have hf8 : fr [7, 8, 9, 10, 11, 12] [4, 5, 6, 7, 8] m (kF m 7 (m.1 13)) := fr_F hf0 7 _ rfl
  refine g_aload_n (n := 0) rfl rfl ?_
  refine g_aload_n (n := 1) rfl rfl ?_
  refine g_getf (v := vI (m.1 14)) rfl (kl_9 _) rfl ?_
  refine g_putF (m' := (kF (kF m 7 (m.1 13)) 8 (m.1 14))) rfl (kl_3 _) rfl rfl rfl rfl (kF_8 _ _) ?_
  have hm9 : kI (kF (kF m 7 (m.1 13)) 8 (m.1 14)) := kI_F hm7 8 (show (0 : Int) ≤ m.1 14 by omega) (show m.1 14 ≤ (10 : Int) by omega)
  have hf10 : fr [7, 8, 9, 10, 11, 12] [4, 5, 6, 7, 8] m (kF (kF m 7 (m.1 13)) 8 (m.1 14)) := fr_F hf8 8 _ rfl
  refine g_aload_n (n := 0) rfl rfl ?_
  refine g_aload_n (n := 1) rfl rfl ?_
  refine g_getf (v := vI (m.1 15)) rfl (kl_9 _) rfl ?_
  refine g_putF (m' := (kF (kF (kF m 7 (m.1 13)) 8 (m.1 14)) 9 (m.1 15))) rfl (kl_3 _) rfl rfl rfl rfl (kF_9 _ _) ?_
  have hm11 : kI (kF (kF (kF m 7 (m.1 13)) 8 (m.1 14)) 9 (m.1 15)) := kI_F hm9 9 (show (0 : Int) ≤ m.1 15 by omega) (show m.1 15 ≤ (5 : Int) by omega)
  have hf12 : fr [7, 8, 9, 10, 11, 12] [4, 5, 6, 7, 8] m (kF (kF (kF m 7 (m.1 13)) 8 (m.1 14)) 9 (m.1 15)) := fr_F hf10 9 _ rfl
  refine g_aload_n (n := 0) rfl rfl ?_
  refine g_aload_n (n := 1) rfl rfl ?_
  refine g_getf (v := vI (m.1 16)) rfl (kl_9 _) rfl ?_
  refine g_putF (m' := (kF (kF (kF (kF m 7 (m.1 13)) 8 (m.1 14)) 9 (m.1 15)) 10 (m.1 16))) rfl (kl_3 _) rfl rfl rfl rfl (kF_10 _ _) ?_
  have hm13 : kI (kF (kF (kF (kF m 7 (m.1 13)) 8 (m.1 14)) 9 (m.1 15)) 10 (m.1 16)) := kI_F hm11 10 (show (0 : Int) ≤ m.1 16 by omega) (show m.1 16 ≤ (63 : Int) by omega)
  have hf14 : fr [7, 8, 9, 10, 11, 12] [4, 5, 6, 7, 8] m (kF (kF (kF (kF m 7 (m.1 13)) 8 (m.1 14)) 9 (m.1 15)) 10 (m.1 16)) := fr_F hf12 10 _ rfl
  refine g_aload_n (n := 0) rfl rfl ?_
  refine g_aload_n (n := 1) rfl rfl ?_
  refine g_getf (v := vI (m.1 17)) rfl (kl_9 _) rfl ?_
  refine g_putF (m' := (kF (kF (kF (kF (kF m 7 (m.1 13)) 8 (m.1 14)) 9 (m.1 15)) 10 (m.1 16)) 11 (m.1 17))) rfl (kl_3 _) rfl rfl rfl rfl (kF_11 _ _) ?_
  have hm15 : kI (kF (kF (kF (kF (kF m 7 (m.1 13)) 8 (m.1 14)) 9 (m.1 15)) 10 (m.1 16)) 11 (m.1 17)) := kI_F hm13 11 (show (0 : Int) ≤ m.1 17 by omega) (show m.1 17 ≤ (3 : Int) by omega)
  have hf16 : fr [7, 8, 9, 10, 11, 12] [4, 5, 6, 7, 8] m (kF (kF (kF (kF (kF m 7 (m.1 13)) 8 (m.1 14)) 9 (m.1 15)) 10 (m.1 16)) 11 (m.1 17)) := fr_F hf14 11 _ rfl
  refine g_aload_n (n := 0) rfl rfl ?_
  refine g_aload_n (n := 1) rfl rfl ?_
  refine g_getf (v := vI (m.1 18)) rfl (kl_9 _) rfl ?_
  refine g_putF (m' := (kF (kF (kF (kF (kF (kF m 7 (m.1 13)) 8 (m.1 14)) 9 (m.1 15)) 10 (m.1 16)) 11 (m.1 17)) 12 (m.1 18))) rfl (kl_3 _) rfl rfl rfl rfl (kF_12 _ _) ?_
  have hm17 : kI (kF (kF (kF (kF (kF (kF m 7 (m.1 13)) 8 (m.1 14)) 9 (m.1 15)) 10 (m.1 16)) 11 (m.1 17)) 12 (m.1 18)) := kI_F hm15 12 (show (0 : Int) ≤ m.1 18 by omega) (show m.1 18 ≤ (5 : Int) by omega)
  have hf18 : fr [7, 8, 9, 10, 11, 12] [4, 5, 6, 7, 8] m (kF (kF (kF (kF (kF (kF m 7 (m.1 13)) 8 (m.1 14)) 9 (m.1 15)) 10 (m.1 16)) 11 (m.1 17)) 12 (m.1 18)) := fr_F hf16 12 _ rfl
  refine g_aload_n (n := 1) rfl rfl ?_
  refine g_getf (v := vR 10) rfl (kl_9 _) rfl ?_
  refine g_iconst rfl ?_
  refine g_aload_n (n := 0) rfl rfl ?_
  refine g_getf (v := vR 4) rfl (kl_3 _) rfl ?_
  refine g_iconst rfl ?_
  refine g_bipush (by decide) rfl ?_
  refine g_Acp (n := 10) (f := m.2.1 4) (g := m.2.1 10) (m' := (kA (kF (kF (kF (kF (kF (kF m 7 (m.1 13)) 8 (m.1 14)) 9 (m.1 15)) 10 (m.1 16)) 11 (m.1 17)) 12 (m.1 18)) 4 (m.2.1 10))) rfl rfl (kl_4 _) (kl_10 _) (by decide) (by omega) (show _ + 60 ≤ q from Nat.le_trans (Nat.le_of_ble_eq_true rfl : _ ≤ 80) (by omega)) (kA_4 _ _) ?_
  have hm19 : kI (kA (kF (kF (kF (kF (kF (kF m 7 (m.1 13)) 8 (m.1 14)) 9 (m.1 15)) 10 (m.1 16)) 11 (m.1 17)) 12 (m.1 18)) 4 (m.2.1 10)) := kI_A hm17 4 (fun j a b => (by have h9 := hm17.2 10 j a b; have h8 : (0 : Int) ≤ m.2.1 10 j ∧ m.2.1 10 j ≤ 5 := h9; exact (show (0 : Int) ≤ m.2.1 10 j ∧ m.2.1 10 j ≤ 5 by omega)))
  have hf20 : fr [7, 8, 9, 10, 11, 12] [4, 5, 6, 7, 8] m (kA (kF (kF (kF (kF (kF (kF m 7 (m.1 13)) 8 (m.1 14)) 9 (m.1 15)) 10 (m.1 16)) 11 (m.1 17)) 12 (m.1 18)) 4 (m.2.1 10)) := fr_A hf18 4 _ rfl
  refine g_aload_n (n := 1) rfl rfl ?_
  refine g_getf (v := vR 11) rfl (kl_9 _) rfl ?_
  refine g_iconst rfl ?_
  refine g_aload_n (n := 0) rfl rfl ?_
  refine g_getf (v := vR 5) rfl (kl_3 _) rfl ?_
  refine g_iconst rfl ?_
  refine g_bipush (by decide) rfl ?_
  refine g_Acp (n := 10) (f := m.2.1 5) (g := m.2.1 11) (m' := (kA (kA (kF (kF (kF (kF (kF (kF m 7 (m.1 13)) 8 (m.1 14)) 9 (m.1 15)) 10 (m.1 16)) 11 (m.1 17)) 12 (m.1 18)) 4 (m.2.1 10)) 5 (m.2.1 11))) rfl rfl (kl_5 _) (kl_11 _) (by decide) (by omega) (show _ + 60 ≤ q from Nat.le_trans (Nat.le_of_ble_eq_true rfl : _ ≤ 80) (by omega)) (kA_5 _ _) ?_
  have hm21 : kI (kA (kA (kF (kF (kF (kF (kF (kF m 7 (m.1 13)) 8 (m.1 14)) 9 (m.1 15)) 10 (m.1 16)) 11 (m.1 17)) 12 (m.1 18)) 4 (m.2.1 10)) 5 (m.2.1 11)) := kI_A hm19 5 (fun j a b => (by have h9 := hm19.2 11 j a b; have h8 : (0 : Int) ≤ m.2.1 11 j ∧ m.2.1 11 j ≤ 5 := h9; exact (show (0 : Int) ≤ m.2.1 11 j ∧ m.2.1 11 j ≤ 5 by omega)))
  have hf22 : fr [7, 8, 9, 10, 11, 12] [4, 5, 6, 7, 8] m (kA (kA (kF (kF (kF (kF (kF (kF m 7 (m.1 13)) 8 (m.1 14)) 9 (m.1 15)) 10 (m.1 16)) 11 (m.1 17)) 12 (m.1 18)) 4 (m.2.1 10)) 5 (m.2.1 11)) := fr_A hf20 5 _ rfl
  refine g_aload_n (n := 1) rfl rfl ?_
  refine g_getf (v := vR 12) rfl (kl_9 _) rfl ?_
  refine g_iconst rfl ?_
  refine g_aload_n (n := 0) rfl rfl ?_
  refine g_getf (v := vR 6) rfl (kl_3 _) rfl ?_
  refine g_iconst rfl ?_
  refine g_bipush (by decide) rfl ?_
  refine g_Acp (n := 10) (f := m.2.1 6) (g := m.2.1 12) (m' := (kA (kA (kA (kF (kF (kF (kF (kF (kF m 7 (m.1 13)) 8 (m.1 14)) 9 (m.1 15)) 10 (m.1 16)) 11 (m.1 17)) 12 (m.1 18)) 4 (m.2.1 10)) 5 (m.2.1 11)) 6 (m.2.1 12))) rfl rfl (kl_6 _) (kl_12 _) (by decide) (by omega) (show _ + 60 ≤ q from Nat.le_trans (Nat.le_of_ble_eq_true rfl : _ ≤ 80) (by omega)) (kA_6 _ _) ?_
  have hm23 : kI (kA (kA (kA (kF (kF (kF (kF (kF (kF m 7 (m.1 13)) 8 (m.1 14)) 9 (m.1 15)) 10 (m.1 16)) 11 (m.1 17)) 12 (m.1 18)) 4 (m.2.1 10)) 5 (m.2.1 11)) 6 (m.2.1 12)) := kI_A hm21 6 (fun j a b => (by have h9 := hm21.2 12 j a b; have h8 : (0 : Int) ≤ m.2.1 12 j ∧ m.2.1 12 j ≤ 5 := h9; exact (show (0 : Int) ≤ m.2.1 12 j ∧ m.2.1 12 j ≤ 5 by omega)))
  have hf24 : fr [7, 8, 9, 10, 11, 12] [4, 5, 6, 7, 8] m (kA (kA (kA (kF (kF (kF (kF (kF (kF m 7 (m.1 13)) 8 (m.1 14)) 9 (m.1 15)) 10 (m.1 16)) 11 (m.1 17)) 12 (m.1 18)) 4 (m.2.1 10)) 5 (m.2.1 11)) 6 (m.2.1 12)) := fr_A hf22 6 _ rfl
  refine g_aload_n (n := 1) rfl rfl ?_
  refine g_getf (v := vR 13) rfl (kl_9 _) rfl ?_
  refine g_iconst rfl ?_
  refine g_aload_n (n := 0) rfl rfl ?_
  refine g_getf (v := vR 7) rfl (kl_3 _) rfl ?_
  refine g_iconst rfl ?_
  refine g_bipush (by decide) rfl ?_
  refine g_Acp (n := 10) (f := m.2.1 7) (g := m.2.1 13) (m' := (kA (kA (kA (kA (kF (kF (kF (kF (kF (kF m 7 (m.1 13)) 8 (m.1 14)) 9 (m.1 15)) 10 (m.1 16)) 11 (m.1 17)) 12 (m.1 18)) 4 (m.2.1 10)) 5 (m.2.1 11)) 6 (m.2.1 12)) 7 (m.2.1 13))) rfl rfl (kl_7 _) (kl_13 _) (by decide) (by omega) (show _ + 60 ≤ q from Nat.le_trans (Nat.le_of_ble_eq_true rfl : _ ≤ 80) (by omega)) (kA_7 _ _) ?_
  have hm25 : kI (kA (kA (kA (kA (kF (kF (kF (kF (kF (kF m 7 (m.1 13)) 8 (m.1 14)) 9 (m.1 15)) 10 (m.1 16)) 11 (m.1 17)) 12 (m.1 18)) 4 (m.2.1 10)) 5 (m.2.1 11)) 6 (m.2.1 12)) 7 (m.2.1 13)) := kI_A hm23 7 (fun j a b => (by have h9 := hm23.2 13 j a b; have h8 : (0 : Int) ≤ m.2.1 13 j ∧ m.2.1 13 j ≤ 1 := h9; exact (show (0 : Int) ≤ m.2.1 13 j ∧ m.2.1 13 j ≤ 1 by omega)))
  have hf26 : fr [7, 8, 9, 10, 11, 12] [4, 5, 6, 7, 8] m (kA (kA (kA (kA (kF (kF (kF (kF (kF (kF m 7 (m.1 13)) 8 (m.1 14)) 9 (m.1 15)) 10 (m.1 16)) 11 (m.1 17)) 12 (m.1 18)) 4 (m.2.1 10)) 5 (m.2.1 11)) 6 (m.2.1 12)) 7 (m.2.1 13)) := fr_A hf24 7 _ rfl
  refine g_aload_n (n := 1) rfl rfl ?_
  refine g_getf (v := vR 14) rfl (kl_9 _) rfl ?_
  refine g_iconst rfl ?_
  refine g_aload_n (n := 0) rfl rfl ?_
  refine g_getf (v := vR 8) rfl (kl_3 _) rfl ?_
  refine g_iconst rfl ?_
  refine g_iconst rfl ?_
  refine g_Acp (n := 2) (f := m.2.1 8) (g := m.2.1 14) (m' := (kA (kA (kA (kA (kA (kF (kF (kF (kF (kF (kF m 7 (m.1 13)) 8 (m.1 14)) 9 (m.1 15)) 10 (m.1 16)) 11 (m.1 17)) 12 (m.1 18)) 4 (m.2.1 10)) 5 (m.2.1 11)) 6 (m.2.1 12)) 7 (m.2.1 13)) 8 (m.2.1 14))) rfl rfl (kl_8 _) (kl_14 _) (by decide) (by omega) (show _ + 60 ≤ q from Nat.le_trans (Nat.le_of_ble_eq_true rfl : _ ≤ 80) (by omega)) (kA_8 _ _) ?_
  have hm27 : kI (kA (kA (kA (kA (kA (kF (kF (kF (kF (kF (kF m 7 (m.1 13)) 8 (m.1 14)) 9 (m.1 15)) 10 (m.1 16)) 11 (m.1 17)) 12 (m.1 18)) 4 (m.2.1 10)) 5 (m.2.1 11)) 6 (m.2.1 12)) 7 (m.2.1 13)) 8 (m.2.1 14)) := kI_A hm25 8 (fun j a b => (by have h9 : (-1 : Int) ≤ m.2.1 14 j ∧ m.2.1 14 j ≤ 5 := hm.2 14 j a b; have hj : j = 0 ∨ j = 1 := (by have b2 : j < 2 := b; omega); rcases hj with rfl | rfl <;> exact ⟨by show (0 : Int) ≤ _; omega, by show _ ≤ (5 : Int); omega⟩))
  have hf28 : fr [7, 8, 9, 10, 11, 12] [4, 5, 6, 7, 8] m (kA (kA (kA (kA (kA (kF (kF (kF (kF (kF (kF m 7 (m.1 13)) 8 (m.1 14)) 9 (m.1 15)) 10 (m.1 16)) 11 (m.1 17)) 12 (m.1 18)) 4 (m.2.1 10)) 5 (m.2.1 11)) 6 (m.2.1 12)) 7 (m.2.1 13)) 8 (m.2.1 14)) := fr_A hf26 8 _ rfl
  refine g_vret rfl rfl ?_
  exact ⟨_, rfl, hm27, hf28, rfl, rfl, rfl, rfl, rfl, rfl, rfl, rfl, rfl, rfl, rfl⟩
theorem c_empty {V : cg_V} {d q : Nat} (hd : 0 ≤ d) (hq : 0 ≤ q) {m : kM} (hm : kI m) : cg_S V d q mX6_empty [vR 1] (kl m) (R_I (fun z m' => (kI m') ∧ (fr [3] [] m m') ∧ (z = m.1 3) ∧ (m'.1 3 = 0))) := by
  have hf0 : fr [3] [] m m := fr_rf m
  refine cg_of (List.mem_of_getElem? (show ae_MT[65]? = some mX6_empty from rfl)) (Nat.le_of_ble_eq_true rfl) ?_
  show cg_G V mX6_empty d q _ 0 [(0, vR 1)] [] (kl m) 0 0
  have h1 : 0 ≤ m.1 3 ∧ m.1 3 ≤ 200 := hm.1 3
  refine g_aload_n (n := 0) rfl rfl ?_
  refine g_getf (v := vI (m.1 3)) rfl (kl_1 _) rfl ?_
  refine g_istore_n (n := 1) (lo' := [(0, vR 1)]) rfl rfl ?_
  refine g_aload_n (n := 0) rfl rfl ?_
  refine g_iconst rfl ?_
  refine g_putF (m' := (kF m 3 0)) rfl (kl_1 _) rfl rfl rfl rfl (kF_3 _ _) ?_
  have hm2 : kI (kF m 3 0) := kI_F hm 3 (show (0 : Int) ≤ 0 by omega) (show 0 ≤ (200 : Int) by omega)
  have hf3 : fr [3] [] m (kF m 3 0) := fr_F hf0 3 _ rfl
  refine g_iload_n (n := 1) rfl rfl ?_
  refine g_iret rfl rfl ?_
  exact ⟨_, _, rfl, hm2, hf3, (by omega), rfl⟩
theorem c_add {V : cg_V} {d q : Nat} (hd : 0 ≤ d) (hq : 0 ≤ q) {m : kM} (hm : kI m) {x n : Int} (h_x : (-9223372036854775808) ≤ x ∧ x ≤ 9223372036854775807) (h_n : 1 ≤ n ∧ n ≤ 8) : cg_S V d q mX6_add [vR 1, vL x, vI n] (kl m) (R_I (fun z m' => (kI m') ∧ (fr [3] [2] m m') ∧ ((z = 1 ∧ m.1 3 + n ≤ 200 ∧ m'.1 3 = m.1 3 + n ∧ m'.2.1 2 = WR (m.2.1 2) (m.1 3) n x) ∨ (z = 0 ∧ 200 < m.1 3 + n ∧ m'.1 3 = m.1 3 ∧ m'.2.1 2 = m.2.1 2)))) := by
  have hf0 : fr [3] [2] m m := fr_rf m
  refine cg_of (List.mem_of_getElem? (show ae_MT[64]? = some mX6_add from rfl)) (Nat.le_of_ble_eq_true rfl) ?_
  show cg_G V mX6_add d q _ 0 [(0, vR 1), (1, vL x), (3, vI n)] [] (kl m) 0 0
  have h1 : 0 ≤ m.1 3 ∧ m.1 3 ≤ 200 := hm.1 3
  refine g_iload_n (n := 3) rfl rfl ?_
  refine g_sipush (by decide) rfl ?_
  refine g_aload_n (n := 0) rfl rfl ?_
  refine g_getf (v := vI (m.1 3)) rfl (kl_1 _) rfl ?_
  refine g_isub rfl ?_
  refine g_icmp_le (by omega) (by omega) (by omega) (by omega) rfl ?_ ?_
  · intro kk2
    refine g_iconst rfl ?_
    refine g_istore (n := 4) (lo' := [(0, vR 1), (1, vL x), (3, vI n)]) rfl rfl ?_
    have L17_1 : ∀ (n17_1 : Nat) (i_1 : Int) (mL1 : kM), (kI mL1) → (fr [3] [2] m mL1) → (0 ≤ i_1 ∧ i_1 ≤ 8) → (i_1 ≤ n) → (mL1.1 3 = m.1 3) → (mL1.2.1 2 = WR (m.2.1 2) (m.1 3) i_1 x) → ((8 - i_1).toNat) = n17_1 → cg_G V mX6_add d q (R_I (fun z m' => (kI m') ∧ (fr [3] [2] m m') ∧ ((z = 1 ∧ m.1 3 + n ≤ 200 ∧ m'.1 3 = m.1 3 + n ∧ m'.2.1 2 = WR (m.2.1 2) (m.1 3) n x) ∨ (z = 0 ∧ 200 < m.1 3 + n ∧ m'.1 3 = m.1 3 ∧ m'.2.1 2 = m.2.1 2)))) 17 [(4, vI i_1), (0, vR 1), (1, vL x), (3, vI n)] [] (kl mL1) 0 0 := by
      intro n17_1
      induction n17_1 using Nat.strongRecOn with
      | _ n17_1 ih17_1 =>
        intro i_1 mL1 hmL1 hfL1 i3 iN iL iW q4
        refine g_iload (n := 4) rfl rfl ?_
        refine g_iload_n (n := 3) rfl rfl ?_
        refine g_icmp_ge (by omega) (by omega) (by omega) (by omega) rfl ?_ ?_
        · intro kk5
          refine g_aload_n (n := 0) rfl rfl ?_
          refine g_dup rfl rfl ?_
          have h6 : 0 ≤ mL1.1 3 ∧ mL1.1 3 ≤ 200 := hmL1.1 3
          refine g_getf (v := vI (mL1.1 3)) rfl (kl_1 _) rfl ?_
          refine g_iload_n (n := 3) rfl rfl ?_
          refine g_iadd rfl ?_
          refine g_putF (m' := (kF mL1 3 (mL1.1 3 + n))) rfl (kl_1 _) rfl rfl rfl rfl (kF_3 _ _) ?_
          have hm7 : kI (kF mL1 3 (mL1.1 3 + n)) := kI_F hmL1 3 (show (0 : Int) ≤ (mL1.1 3 + n) by omega) (show (mL1.1 3 + n) ≤ (200 : Int) by omega)
          have hf8 : fr [3] [2] m (kF mL1 3 (mL1.1 3 + n)) := fr_F hfL1 3 _ rfl
          refine g_iconst rfl ?_
          refine g_zret rfl rfl (by omega) ?_
          exact ⟨_, _, rfl, hm7, hf8, Or.inl ⟨rfl, by omega, (show _ + n = m.1 3 + n by omega), (by show mL1.2.1 2 = _; rw [iW, show i_1 = n by omega])⟩⟩
        · intro kk9
          refine g_aload_n (n := 0) rfl rfl ?_
          refine g_getf (v := vR 2) rfl (kl_1 _) rfl ?_
          refine g_aload_n (n := 0) rfl rfl ?_
          have h10 : 0 ≤ mL1.1 3 ∧ mL1.1 3 ≤ 200 := hmL1.1 3
          refine g_getf (v := vI (mL1.1 3)) rfl (kl_1 _) rfl ?_
          refine g_iload (n := 4) rfl rfl ?_
          refine g_iadd rfl ?_
          refine g_lload_n (n := 1) rfl rfl ?_
          refine g_bipush (by decide) rfl ?_
          refine g_iload (n := 4) rfl rfl ?_
          refine g_imul rfl ?_
          refine g_lshr rfl ?_
          intro z11 h12 h13 h14
          have h15 : z11 = x / 2 ^ (Int.toNat ((8 * i_1))) := b_lshr h12 (by omega) (by omega) (by omega) (by omega)
          refine g_ldc2 (x := 255) (by decide) rfl ?_
          refine g_land rfl ?_
          intro z16 h17 h18 h19
          have h20 : z16 = z11 % 256 := b_lmodN (k := 8) h17 (by decide) (by decide) (by decide)
          refine g_l2i rfl ?_
          refine g_iAst (f := mL1.2.1 2) (m' := (kA mL1 2 (up (mL1.2.1 2) (mL1.1 3 + i_1) z16))) rfl (kl_2 _) (by decide) (by omega) (by omega) (kA_2 _ _) ?_
          have hm21 : kI (kA mL1 2 (up (mL1.2.1 2) (mL1.1 3 + i_1) z16)) := kI_U hmL1 2 rfl (show (0 : Int) ≤ z16 by omega) (show z16 ≤ (255 : Int) by omega)
          have hf22 : fr [3] [2] m (kA mL1 2 (up (mL1.2.1 2) (mL1.1 3 + i_1) z16)) := fr_A hfL1 2 _ rfl
          have hWn : (kA mL1 2 (up (mL1.2.1 2) (mL1.1 3 + i_1) z16)).2.1 2 = WR (m.2.1 2) (m.1 3) (i_1 + 1) x := by
            show up (mL1.2.1 2) (mL1.1 3 + i_1) z16 = _
            rw [iW, show (mL1.1 3 + i_1) = m.1 3 + i_1 by omega]
            refine WR_up (by omega) ?_
            show z16 = x / 2 ^ (Int.toNat (8 * i_1)) % 256
            omega
          refine g_iinc (n := 4) (lo' := [(0, vR 1), (1, vL x), (3, vI n)]) rfl rfl rfl ?_
          refine g_goto rfl ?_
          exact ih17_1 _ (by omega) (i_1 + 1) (kA mL1 2 (up (mL1.2.1 2) (mL1.1 3 + i_1) z16)) hm21 hf22 (by omega) (by omega) iL hWn rfl
    exact L17_1 _ 0 m hm hf0 (by omega) (by omega) rfl (WR_0 _ _ _).symm rfl
  · intro kk23
    refine g_iconst rfl ?_
    refine g_zret rfl rfl (by omega) ?_
    exact ⟨_, _, rfl, hm, hf0, Or.inr ⟨rfl, by omega, rfl, rfl⟩⟩
theorem c_write {V : cg_V} {d q : Nat} (hd : 1 ≤ d) (hq : 24 ≤ q) {m : kM} (hm : kI m) {x n : Int} (h_x : (-9223372036854775808) ≤ x ∧ x ≤ 9223372036854775807) (h_n : (-2147483648) ≤ n ∧ n ≤ 2147483647) : cg_S V d q mX9_write [vR 0, vL x, vI n] (kl m) (R_I (fun z m' => (kI m') ∧ (fr [3] [2] m m') ∧ ((1 ≤ n ∧ n ≤ 8 ∧ m.1 3 + n ≤ 200 ∧ m'.1 3 = m.1 3 + n ∧ m'.2.1 2 = WR (m.2.1 2) (m.1 3) n x ∧ z = m.1 3 + n) ∨ (((n < 1 ∨ 8 < n) ∧ z = -3 ∨ (1 ≤ n ∧ n ≤ 8 ∧ 200 < m.1 3 + n) ∧ z = -5) ∧ m'.1 3 = m.1 3 ∧ m'.2.1 2 = m.2.1 2)))) := by
  have hf0 : fr [3] [2] m m := fr_rf m
  refine cg_of (List.mem_of_getElem? (show ae_MT[87]? = some mX9_write from rfl)) (Nat.le_of_ble_eq_true rfl) ?_
  show cg_G V mX9_write d q _ 0 [(0, vR 0), (1, vL x), (3, vI n)] [] (kl m) 0 0
  have h1 : 0 ≤ m.1 3 ∧ m.1 3 ≤ 200 := hm.1 3
  refine g_iload_n (n := 3) rfl rfl ?_
  refine g_iconst rfl ?_
  refine g_icmp_lt (by omega) (by omega) (by decide) (by decide) rfl ?_ ?_
  · intro kk2
    refine g_bipush (by decide) rfl ?_
    refine g_iret rfl rfl ?_
    exact ⟨_, _, rfl, hm, hf0, Or.inr ⟨Or.inl ⟨by omega, rfl⟩, rfl, rfl⟩⟩
  · intro kk3
    refine g_iload_n (n := 3) rfl rfl ?_
    refine g_bipush (by decide) rfl ?_
    refine g_icmp_le (by omega) (by omega) (by decide) (by decide) rfl ?_ ?_
    · intro kk4
      refine g_aload_n (n := 0) rfl rfl ?_
      refine g_getf (v := vR 1) rfl (kl_0 _) rfl ?_
      refine g_lload_n (n := 1) rfl rfl ?_
      refine g_iload_n (n := 3) rfl rfl ?_
      refine c_vI (i := 1) (ps := [vI n, vL x]) (r := []) (as := [vR 1, vL x, vI n]) (cs' := 0) (sl' := 0) rfl rfl rfl rfl rfl rfl (kl_1 _) (c_add (d := d - 1) (q := q - (5 + 19)) (by omega) (by omega) hm (x := x) (n := n) (show (-9223372036854775808) ≤ x ∧ x ≤ 9223372036854775807 by omega) (show 1 ≤ n ∧ n ≤ 8 by omega)) (by omega) (show 5 + 19 ≤ q by omega) (Nat.le_of_ble_eq_true rfl) (Nat.le_of_ble_eq_true rfl) rfl rfl rfl ?_
      rintro z5 m6 ⟨hm8, hc9, p10⟩
      have hf11 : fr [3] [2] m m6 := fr_tr hf0 (fr_le hc9 rfl rfl)
      refine g_if_eq (by omega) (by omega) rfl ?_ ?_
      · intro kk12
        refine g_bipush (by decide) rfl ?_
        refine g_iret rfl rfl ?_
        have h0 := p10.resolve_left (fun h => by omega)
        exact ⟨_, _, rfl, hm8, hf11, Or.inr ⟨Or.inr ⟨by omega, rfl⟩, h0.2.2.1, h0.2.2.2⟩⟩
      · intro kk13
        refine g_aload_n (n := 0) rfl rfl ?_
        refine g_getf (v := vR 1) rfl (kl_0 _) rfl ?_
        have h14 : 0 ≤ m6.1 3 ∧ m6.1 3 ≤ 200 := hm8.1 3
        refine g_getf (v := vI (m6.1 3)) rfl (kl_1 _) rfl ?_
        refine g_goto rfl ?_
        refine g_iret rfl rfl ?_
        have h0 := p10.resolve_right (fun h => by omega)
        exact ⟨_, _, rfl, hm8, hf11, Or.inl ⟨by omega, by omega, h0.2.1, h0.2.2.1, h0.2.2.2, h0.2.2.1⟩⟩
    · intro kk15
      refine g_bipush (by decide) rfl ?_
      refine g_iret rfl rfl ?_
      exact ⟨_, _, rfl, hm, hf0, Or.inr ⟨Or.inl ⟨by omega, rfl⟩, rfl, rfl⟩⟩
theorem c_erase {V : cg_V} {d q : Nat} (hd : 1 ≤ d) (hq : 21 ≤ q) {m : kM} (hm : kI m) : cg_S V d q mX9_erase [vR 0] (kl m) (R_I (fun z m' => (kI m') ∧ (fr [3] [] m m') ∧ (z = m.1 3) ∧ (m'.1 3 = 0))) := by
  have hf0 : fr [3] [] m m := fr_rf m
  refine cg_of (List.mem_of_getElem? (show ae_MT[88]? = some mX9_erase from rfl)) (Nat.le_of_ble_eq_true rfl) ?_
  show cg_G V mX9_erase d q _ 0 [(0, vR 0)] [] (kl m) 0 0
  have h1 : 0 ≤ m.1 3 ∧ m.1 3 ≤ 200 := hm.1 3
  refine g_aload_n (n := 0) rfl rfl ?_
  refine g_getf (v := vR 1) rfl (kl_0 _) rfl ?_
  refine c_vI (i := 1) (ps := []) (r := []) (as := [vR 1]) (cs' := 0) (sl' := 0) rfl rfl rfl rfl rfl rfl (kl_1 _) (c_empty (d := d - 1) (q := q - (2 + 19)) (by omega) (by omega) hm  ) (by omega) (show 2 + 19 ≤ q by omega) (Nat.le_of_ble_eq_true rfl) (Nat.le_of_ble_eq_true rfl) rfl rfl rfl ?_
  rintro z2 m3 ⟨hm5, hc6, p7, p8⟩
  have hf9 : fr [3] [] m m3 := fr_tr hf0 (fr_le hc6 rfl rfl)
  refine g_iret rfl rfl ?_
  exact ⟨_, _, rfl, hm5, hf9, p7, p8⟩
theorem c_fault {V : cg_V} {d q : Nat} (hd : 7 ≤ d) (hq : 150 ≤ q) {m : kM} (hm : kI m) : cg_S V d q mX9_fault [vR 0] (kl m) (R_I (fun z m' => (kI m') ∧ (fr [4, 5, 6, 13, 14, 15, 16, 17, 18] [10, 11, 12, 13, 14] m m') ∧ (z = (RD (m.2.1 2) (m.1 3) 10 0 (m.1 7) (m.1 8) (m.1 10)).1))) := by
  have hf0 : fr [4, 5, 6, 13, 14, 15, 16, 17, 18] [10, 11, 12, 13, 14] m m := fr_rf m
  refine cg_of (List.mem_of_getElem? (show ae_MT[89]? = some mX9_fault from rfl)) (Nat.le_of_ble_eq_true rfl) ?_
  show cg_G V mX9_fault d q _ 0 [(0, vR 0)] [] (kl m) 0 0
  have h1 : 0 ≤ m.1 3 ∧ m.1 3 ≤ 200 := hm.1 3
  have h2 : 2 ≤ m.1 7 ∧ m.1 7 ≤ 6 := hm.1 7
  have h3 : 0 ≤ m.1 8 ∧ m.1 8 ≤ 10 := hm.1 8
  have h4 : 0 ≤ m.1 10 ∧ m.1 10 ≤ 63 := hm.1 10
  refine g_aload_n (n := 0) rfl rfl ?_
  refine g_getf (v := vR 9) rfl (kl_0 _) rfl ?_
  refine g_aload_n (n := 0) rfl rfl ?_
  refine g_getf (v := vR 3) rfl (kl_0 _) rfl ?_
  have h5 : 0 ≤ m.1 9 ∧ m.1 9 ≤ 5 := hm.1 9
  have h6 : 0 ≤ m.1 11 ∧ m.1 11 ≤ 3 := hm.1 11
  have h7 : 0 ≤ m.1 12 ∧ m.1 12 ≤ 5 := hm.1 12
  refine c_vV (i := 9) (ps := [vR 3]) (r := []) (as := [vR 9, vR 3]) (cs' := 0) (sl' := 0) rfl rfl rfl rfl rfl rfl (kl_9 _) (c_copy93 (d := d - 1) (q := q - (2 + 19)) (by omega) (by omega) hm  ) (by omega) (show 2 + 19 ≤ q by omega) (Nat.le_of_ble_eq_true rfl) (Nat.le_of_ble_eq_true rfl) rfl rfl rfl ?_
  rintro m9 ⟨hm11, hc12, p13, p14, p15, p16, p17, p18, p19, p20, p21, p22, p23, p24⟩
  have hf25 : fr [4, 5, 6, 13, 14, 15, 16, 17, 18] [10, 11, 12, 13, 14] m m9 := fr_tr hf0 (fr_le hc12 rfl rfl)
  have h26 : m9.1 3 = m.1 3 := hc12.1 3 rfl
  have h27 : 0 ≤ m9.1 3 ∧ m9.1 3 ≤ 200 := hm11.1 3
  have h28 : m9.1 7 = m.1 7 := hc12.1 7 rfl
  have h29 : 2 ≤ m9.1 7 ∧ m9.1 7 ≤ 6 := hm11.1 7
  have h30 : m9.1 8 = m.1 8 := hc12.1 8 rfl
  have h31 : 0 ≤ m9.1 8 ∧ m9.1 8 ≤ 10 := hm11.1 8
  have h32 : m9.1 9 = m.1 9 := hc12.1 9 rfl
  have h33 : 0 ≤ m9.1 9 ∧ m9.1 9 ≤ 5 := hm11.1 9
  have h34 : m9.1 10 = m.1 10 := hc12.1 10 rfl
  have h35 : 0 ≤ m9.1 10 ∧ m9.1 10 ≤ 63 := hm11.1 10
  have h36 : m9.1 11 = m.1 11 := hc12.1 11 rfl
  have h37 : 0 ≤ m9.1 11 ∧ m9.1 11 ≤ 3 := hm11.1 11
  have h38 : m9.1 12 = m.1 12 := hc12.1 12 rfl
  have h39 : 0 ≤ m9.1 12 ∧ m9.1 12 ≤ 5 := hm11.1 12
  refine g_aload_n (n := 0) rfl rfl ?_
  refine g_getf (v := vR 1) rfl (kl_0 _) rfl ?_
  refine g_aload_n (n := 0) rfl rfl ?_
  refine g_getf (v := vR 9) rfl (kl_0 _) rfl ?_
  have h40 : 2 ≤ m9.1 13 ∧ m9.1 13 ≤ 6 := hm11.1 13
  have h41 : 0 ≤ m9.1 14 ∧ m9.1 14 ≤ 10 := hm11.1 14
  have h42 : 0 ≤ m9.1 16 ∧ m9.1 16 ≤ 63 := hm11.1 16
  have h43 : (-1) ≤ m9.1 18 ∧ m9.1 18 ≤ 5 := hm11.1 18
  refine c_vI (i := 1) (ps := [vR 9]) (r := []) (as := [vR 1, vR 9]) (cs' := 0) (sl' := 0) rfl rfl rfl rfl rfl rfl (kl_1 _) (c_readInto (d := d - 1) (q := q - (3 + 19)) (by omega) (by omega) hm11  p24) (by omega) (show 3 + 19 ≤ q by omega) (Nat.le_of_ble_eq_true rfl) (Nat.le_of_ble_eq_true rfl) rfl rfl rfl ?_
  rintro z44 m45 ⟨hm47, hc48, p49, p50, p51, p52⟩
  have hf53 : fr [4, 5, 6, 13, 14, 15, 16, 17, 18] [10, 11, 12, 13, 14] m m45 := fr_tr hf25 (fr_le hc48 rfl rfl)
  have h54 : m45.1 3 = m9.1 3 := hc48.1 3 rfl
  have h55 : 0 ≤ m45.1 3 ∧ m45.1 3 ≤ 200 := hm47.1 3
  have h56 : m45.1 7 = m9.1 7 := hc48.1 7 rfl
  have h57 : 2 ≤ m45.1 7 ∧ m45.1 7 ≤ 6 := hm47.1 7
  have h58 : m45.1 8 = m9.1 8 := hc48.1 8 rfl
  have h59 : 0 ≤ m45.1 8 ∧ m45.1 8 ≤ 10 := hm47.1 8
  have h60 : m45.1 9 = m9.1 9 := hc48.1 9 rfl
  have h61 : 0 ≤ m45.1 9 ∧ m45.1 9 ≤ 5 := hm47.1 9
  have h62 : m45.1 10 = m9.1 10 := hc48.1 10 rfl
  have h63 : 0 ≤ m45.1 10 ∧ m45.1 10 ≤ 63 := hm47.1 10
  have h64 : m45.1 11 = m9.1 11 := hc48.1 11 rfl
  have h65 : 0 ≤ m45.1 11 ∧ m45.1 11 ≤ 3 := hm47.1 11
  have h66 : m45.1 12 = m9.1 12 := hc48.1 12 rfl
  have h67 : 0 ≤ m45.1 12 ∧ m45.1 12 ≤ 5 := hm47.1 12
  have eR : RD (m9.2.1 2) (m9.1 3) 10 0 (m9.1 13) (m9.1 14) (m9.1 16) = (RD (m.2.1 2) (m.1 3) 10 0 (m.1 7) (m.1 8) (m.1 10)) := by rw [hc12.2.1 2 rfl, hc12.1 3 rfl, p13, p14, p16]
  have eY : RG (m9.2.1 2) (m9.1 3) 10 0 (m9.1 13) (m9.1 14) (m9.1 16) (m9.2.1 10, m9.2.1 11, m9.2.1 12, m9.2.1 13, m9.1 18) = (RG (m.2.1 2) (m.1 3) 10 0 (m.1 7) (m.1 8) (m.1 10) (m.2.1 4, m.2.1 5, m.2.1 6, m.2.1 7, m.1 12)) := by rw [hc12.2.1 2 rfl, hc12.1 3 rfl, p13, p14, p16, kY_eq p19 p20 p21 p22 p18]
  have hz := p49
  have ho := p50
  rw [eR] at hz ho
  rw [eY] at ho
  refine g_iret rfl rfl ?_
  exact ⟨_, _, rfl, hm47, hf53, hz⟩
theorem c_gaol {V : cg_V} {d q : Nat} (hd : 7 ≤ d) (hq : 150 ≤ q) {m : kM} (hm : kI m) (h_kW : kW m) (h_kP : kP m) : cg_S V d q mX9_gaol [vR 0] (kl m) (R_I (fun z m' => (kI m') ∧ (fq [0, 1, 2, 3, 4, 5, 6, 7, 8, 9, 10, 11, 12, 13, 14, 15, 16, 17, 18, 19, 22] [4, 5, 6, 7, 8, 10, 11, 12, 13, 14, 29, 30, 59] m m') ∧ (((RD (m.2.1 2) (m.1 3) 10 0 (m.1 7) (m.1 8) (m.1 10)).1 = -1 ∧ z = (RD (m.2.1 2) (m.1 3) 10 0 (m.1 7) (m.1 8) (m.1 10)).2.2.2.2 ∧ m'.1 7 = (RD (m.2.1 2) (m.1 3) 10 0 (m.1 7) (m.1 8) (m.1 10)).2.1 ∧ m'.1 8 = (RD (m.2.1 2) (m.1 3) 10 0 (m.1 7) (m.1 8) (m.1 10)).2.2.1 ∧ m'.1 10 = (RD (m.2.1 2) (m.1 3) 10 0 (m.1 7) (m.1 8) (m.1 10)).2.2.2.1 ∧ m'.1 3 = 0 ∧ m'.1 22 = 0 ∧ m'.1 0 = 0 ∧ (m'.2.1 4, m'.2.1 5, m'.2.1 6, m'.2.1 7, m'.1 12) = (RG (m.2.1 2) (m.1 3) 10 0 (m.1 7) (m.1 8) (m.1 10) (m.2.1 4, m.2.1 5, m.2.1 6, m.2.1 7, m.1 12))) ∨ ((RD (m.2.1 2) (m.1 3) 10 0 (m.1 7) (m.1 8) (m.1 10)).1 ≠ -1 ∧ z = -4 ∧ m'.1 7 = m.1 7 ∧ m'.1 8 = m.1 8 ∧ m'.1 10 = m.1 10 ∧ m'.1 3 = m.1 3 ∧ m'.1 22 = m.1 22 ∧ m'.1 0 = m.1 0 ∧ (m'.2.1 4, m'.2.1 5, m'.2.1 6, m'.2.1 7, m'.1 12) = (m.2.1 4, m.2.1 5, m.2.1 6, m.2.1 7, m.1 12))) ∧ (kW m') ∧ (kP m'))) := by
  have hf0 : fq [0, 1, 2, 3, 4, 5, 6, 7, 8, 9, 10, 11, 12, 13, 14, 15, 16, 17, 18, 19, 22] [4, 5, 6, 7, 8, 10, 11, 12, 13, 14, 29, 30, 59] m m := fq_rf m
  refine cg_of (List.mem_of_getElem? (show ae_MT[90]? = some mX9_gaol from rfl)) (Nat.le_of_ble_eq_true rfl) ?_
  show cg_G V mX9_gaol d q _ 0 [(0, vR 0)] [] (kl m) 0 0
  have h1 : 0 ≤ m.1 0 ∧ m.1 0 ≤ 20 := hm.1 0
  have h2 : 0 ≤ m.1 3 ∧ m.1 3 ≤ 200 := hm.1 3
  have h3 : 2 ≤ m.1 7 ∧ m.1 7 ≤ 6 := hm.1 7
  have h4 : 0 ≤ m.1 8 ∧ m.1 8 ≤ 10 := hm.1 8
  have h5 : 0 ≤ m.1 10 ∧ m.1 10 ≤ 63 := hm.1 10
  have h6 : 0 ≤ m.1 12 ∧ m.1 12 ≤ 5 := hm.1 12
  have h7 : 0 ≤ m.1 22 ∧ m.1 22 ≤ 8 := hm.1 22
  refine g_aload_n (n := 0) rfl rfl ?_
  refine g_getf (v := vR 9) rfl (kl_0 _) rfl ?_
  refine g_aload_n (n := 0) rfl rfl ?_
  refine g_getf (v := vR 3) rfl (kl_0 _) rfl ?_
  have h8 : 0 ≤ m.1 9 ∧ m.1 9 ≤ 5 := hm.1 9
  have h9 : 0 ≤ m.1 11 ∧ m.1 11 ≤ 3 := hm.1 11
  refine c_vV (i := 9) (ps := [vR 3]) (r := []) (as := [vR 9, vR 3]) (cs' := 0) (sl' := 0) rfl rfl rfl rfl rfl rfl (kl_9 _) (c_copy93 (d := d - 1) (q := q - (2 + 19)) (by omega) (by omega) hm  ) (by omega) (show 2 + 19 ≤ q by omega) (Nat.le_of_ble_eq_true rfl) (Nat.le_of_ble_eq_true rfl) rfl rfl rfl ?_
  rintro m11 ⟨hm13, hc14, p15, p16, p17, p18, p19, p20, p21, p22, p23, p24, p25, p26⟩
  have hf27 : fq [0, 1, 2, 3, 4, 5, 6, 7, 8, 9, 10, 11, 12, 13, 14, 15, 16, 17, 18, 19, 22] [4, 5, 6, 7, 8, 10, 11, 12, 13, 14, 29, 30, 59] m m11 := fq_tr hf0 (fq_le (fq_of hc14) rfl rfl)
  have h28 : m11.1 0 = m.1 0 := hc14.1 0 rfl
  have h29 : 0 ≤ m11.1 0 ∧ m11.1 0 ≤ 20 := hm13.1 0
  have h30 : m11.1 3 = m.1 3 := hc14.1 3 rfl
  have h31 : 0 ≤ m11.1 3 ∧ m11.1 3 ≤ 200 := hm13.1 3
  have h32 : m11.1 7 = m.1 7 := hc14.1 7 rfl
  have h33 : 2 ≤ m11.1 7 ∧ m11.1 7 ≤ 6 := hm13.1 7
  have h34 : m11.1 8 = m.1 8 := hc14.1 8 rfl
  have h35 : 0 ≤ m11.1 8 ∧ m11.1 8 ≤ 10 := hm13.1 8
  have h36 : m11.1 9 = m.1 9 := hc14.1 9 rfl
  have h37 : 0 ≤ m11.1 9 ∧ m11.1 9 ≤ 5 := hm13.1 9
  have h38 : m11.1 10 = m.1 10 := hc14.1 10 rfl
  have h39 : 0 ≤ m11.1 10 ∧ m11.1 10 ≤ 63 := hm13.1 10
  have h40 : m11.1 11 = m.1 11 := hc14.1 11 rfl
  have h41 : 0 ≤ m11.1 11 ∧ m11.1 11 ≤ 3 := hm13.1 11
  have h42 : m11.1 12 = m.1 12 := hc14.1 12 rfl
  have h43 : 0 ≤ m11.1 12 ∧ m11.1 12 ≤ 5 := hm13.1 12
  have h44 : m11.1 22 = m.1 22 := hc14.1 22 rfl
  have h45 : 0 ≤ m11.1 22 ∧ m11.1 22 ≤ 8 := hm13.1 22
  have t46 : kW m11 := kW_fr hc14 rfl rfl h_kW
  have t47 : kP m11 := kP_fr hc14 rfl rfl h_kP
  refine g_aload_n (n := 0) rfl rfl ?_
  refine g_getf (v := vR 1) rfl (kl_0 _) rfl ?_
  refine g_aload_n (n := 0) rfl rfl ?_
  refine g_getf (v := vR 9) rfl (kl_0 _) rfl ?_
  have h48 : 2 ≤ m11.1 13 ∧ m11.1 13 ≤ 6 := hm13.1 13
  have h49 : 0 ≤ m11.1 14 ∧ m11.1 14 ≤ 10 := hm13.1 14
  have h50 : 0 ≤ m11.1 16 ∧ m11.1 16 ≤ 63 := hm13.1 16
  have h51 : (-1) ≤ m11.1 18 ∧ m11.1 18 ≤ 5 := hm13.1 18
  refine c_vI (i := 1) (ps := [vR 9]) (r := []) (as := [vR 1, vR 9]) (cs' := 0) (sl' := 0) rfl rfl rfl rfl rfl rfl (kl_1 _) (c_readInto (d := d - 1) (q := q - (3 + 19)) (by omega) (by omega) hm13  p26) (by omega) (show 3 + 19 ≤ q by omega) (Nat.le_of_ble_eq_true rfl) (Nat.le_of_ble_eq_true rfl) rfl rfl rfl ?_
  rintro z52 m53 ⟨hm55, hc56, p57, p58, p59, p60⟩
  have hf61 : fq [0, 1, 2, 3, 4, 5, 6, 7, 8, 9, 10, 11, 12, 13, 14, 15, 16, 17, 18, 19, 22] [4, 5, 6, 7, 8, 10, 11, 12, 13, 14, 29, 30, 59] m m53 := fq_tr hf27 (fq_le (fq_of hc56) rfl rfl)
  have h62 : m53.1 0 = m11.1 0 := hc56.1 0 rfl
  have h63 : 0 ≤ m53.1 0 ∧ m53.1 0 ≤ 20 := hm55.1 0
  have h64 : m53.1 3 = m11.1 3 := hc56.1 3 rfl
  have h65 : 0 ≤ m53.1 3 ∧ m53.1 3 ≤ 200 := hm55.1 3
  have h66 : m53.1 7 = m11.1 7 := hc56.1 7 rfl
  have h67 : 2 ≤ m53.1 7 ∧ m53.1 7 ≤ 6 := hm55.1 7
  have h68 : m53.1 8 = m11.1 8 := hc56.1 8 rfl
  have h69 : 0 ≤ m53.1 8 ∧ m53.1 8 ≤ 10 := hm55.1 8
  have h70 : m53.1 9 = m11.1 9 := hc56.1 9 rfl
  have h71 : 0 ≤ m53.1 9 ∧ m53.1 9 ≤ 5 := hm55.1 9
  have h72 : m53.1 10 = m11.1 10 := hc56.1 10 rfl
  have h73 : 0 ≤ m53.1 10 ∧ m53.1 10 ≤ 63 := hm55.1 10
  have h74 : m53.1 11 = m11.1 11 := hc56.1 11 rfl
  have h75 : 0 ≤ m53.1 11 ∧ m53.1 11 ≤ 3 := hm55.1 11
  have h76 : m53.1 12 = m11.1 12 := hc56.1 12 rfl
  have h77 : 0 ≤ m53.1 12 ∧ m53.1 12 ≤ 5 := hm55.1 12
  have h78 : m53.1 22 = m11.1 22 := hc56.1 22 rfl
  have h79 : 0 ≤ m53.1 22 ∧ m53.1 22 ≤ 8 := hm55.1 22
  have t80 : kW m53 := kW_fr hc56 rfl rfl t46
  have t81 : kP m53 := kP_fr hc56 rfl rfl t47
  have eR : RD (m11.2.1 2) (m11.1 3) 10 0 (m11.1 13) (m11.1 14) (m11.1 16) = (RD (m.2.1 2) (m.1 3) 10 0 (m.1 7) (m.1 8) (m.1 10)) := by rw [hc14.2.1 2 rfl, hc14.1 3 rfl, p15, p16, p18]
  have eY : RG (m11.2.1 2) (m11.1 3) 10 0 (m11.1 13) (m11.1 14) (m11.1 16) (m11.2.1 10, m11.2.1 11, m11.2.1 12, m11.2.1 13, m11.1 18) = (RG (m.2.1 2) (m.1 3) 10 0 (m.1 7) (m.1 8) (m.1 10) (m.2.1 4, m.2.1 5, m.2.1 6, m.2.1 7, m.1 12)) := by rw [hc14.2.1 2 rfl, hc14.1 3 rfl, p15, p16, p18, kY_eq p21 p22 p23 p24 p20]
  have hz := p57
  have ho := p58
  rw [eR] at hz ho
  rw [eY] at ho
  refine g_iconst rfl ?_
  refine g_icmp_eq (by omega) (by omega) (by decide) (by decide) rfl ?_ ?_
  · intro kk82
    have kGx := (ho (by omega)).2.2.2.2.1
    refine g_aload_n (n := 0) rfl rfl ?_
    refine g_getf (v := vR 3) rfl (kl_0 _) rfl ?_
    refine g_aload_n (n := 0) rfl rfl ?_
    refine g_getf (v := vR 9) rfl (kl_0 _) rfl ?_
    have h83 : 2 ≤ m53.1 13 ∧ m53.1 13 ≤ 6 := hm55.1 13
    have h84 : 0 ≤ m53.1 14 ∧ m53.1 14 ≤ 10 := hm55.1 14
    have h85 : (-1) ≤ m53.1 15 ∧ m53.1 15 ≤ 5 := hm55.1 15
    have h86 : 0 ≤ m53.1 16 ∧ m53.1 16 ≤ 63 := hm55.1 16
    have h87 : (-1) ≤ m53.1 17 ∧ m53.1 17 ≤ 3 := hm55.1 17
    have h88 : (-1) ≤ m53.1 18 ∧ m53.1 18 ≤ 5 := hm55.1 18
    refine c_vV (i := 3) (ps := [vR 9]) (r := []) (as := [vR 3, vR 9]) (cs' := 0) (sl' := 0) rfl rfl rfl rfl rfl rfl (kl_3 _) (c_copy39 (d := d - 1) (q := q - (2 + 19)) (by omega) (by omega) hm55  kGx) (by omega) (show 2 + 19 ≤ q by omega) (Nat.le_of_ble_eq_true rfl) (Nat.le_of_ble_eq_true rfl) rfl rfl rfl ?_
    rintro m90 ⟨hm92, hc93, p94, p95, p96, p97, p98, p99, p100, p101, p102, p103, p104⟩
    have hf105 : fq [0, 1, 2, 3, 4, 5, 6, 7, 8, 9, 10, 11, 12, 13, 14, 15, 16, 17, 18, 19, 22] [4, 5, 6, 7, 8, 10, 11, 12, 13, 14, 29, 30, 59] m m90 := fq_tr hf61 (fq_le (fq_of hc93) rfl rfl)
    have h106 : m90.1 0 = m53.1 0 := hc93.1 0 rfl
    have h107 : 0 ≤ m90.1 0 ∧ m90.1 0 ≤ 20 := hm92.1 0
    have h108 : m90.1 3 = m53.1 3 := hc93.1 3 rfl
    have h109 : 0 ≤ m90.1 3 ∧ m90.1 3 ≤ 200 := hm92.1 3
    have h110 : m90.1 13 = m53.1 13 := hc93.1 13 rfl
    have h111 : 2 ≤ m90.1 13 ∧ m90.1 13 ≤ 6 := hm92.1 13
    have h112 : m90.1 14 = m53.1 14 := hc93.1 14 rfl
    have h113 : 0 ≤ m90.1 14 ∧ m90.1 14 ≤ 10 := hm92.1 14
    have h114 : m90.1 15 = m53.1 15 := hc93.1 15 rfl
    have h115 : (-1) ≤ m90.1 15 ∧ m90.1 15 ≤ 5 := hm92.1 15
    have h116 : m90.1 16 = m53.1 16 := hc93.1 16 rfl
    have h117 : 0 ≤ m90.1 16 ∧ m90.1 16 ≤ 63 := hm92.1 16
    have h118 : m90.1 17 = m53.1 17 := hc93.1 17 rfl
    have h119 : (-1) ≤ m90.1 17 ∧ m90.1 17 ≤ 3 := hm92.1 17
    have h120 : m90.1 18 = m53.1 18 := hc93.1 18 rfl
    have h121 : (-1) ≤ m90.1 18 ∧ m90.1 18 ≤ 5 := hm92.1 18
    have h122 : m90.1 22 = m53.1 22 := hc93.1 22 rfl
    have h123 : 0 ≤ m90.1 22 ∧ m90.1 22 ≤ 8 := hm92.1 22
    have t124 : kW m90 := kW_fr hc93 rfl rfl t80
    have t125 : kP m90 := kP_fr hc93 rfl rfl t81
    have t126 : kG m90 := kG_fr hc93 rfl rfl kGx
    refine g_aload_n (n := 0) rfl rfl ?_
    refine g_getf (v := vR 1) rfl (kl_0 _) rfl ?_
    refine c_vI (i := 1) (ps := []) (r := []) (as := [vR 1]) (cs' := 0) (sl' := 0) rfl rfl rfl rfl rfl rfl (kl_1 _) (c_empty (d := d - 1) (q := q - (2 + 19)) (by omega) (by omega) hm92  ) (by omega) (show 2 + 19 ≤ q by omega) (Nat.le_of_ble_eq_true rfl) (Nat.le_of_ble_eq_true rfl) rfl rfl rfl ?_
    rintro z127 m128 ⟨hm130, hc131, p132, p133⟩
    have hf134 : fq [0, 1, 2, 3, 4, 5, 6, 7, 8, 9, 10, 11, 12, 13, 14, 15, 16, 17, 18, 19, 22] [4, 5, 6, 7, 8, 10, 11, 12, 13, 14, 29, 30, 59] m m128 := fq_tr hf105 (fq_le (fq_of hc131) rfl rfl)
    have h135 : m128.1 0 = m90.1 0 := hc131.1 0 rfl
    have h136 : 0 ≤ m128.1 0 ∧ m128.1 0 ≤ 20 := hm130.1 0
    have h137 : m128.1 13 = m90.1 13 := hc131.1 13 rfl
    have h138 : 2 ≤ m128.1 13 ∧ m128.1 13 ≤ 6 := hm130.1 13
    have h139 : m128.1 14 = m90.1 14 := hc131.1 14 rfl
    have h140 : 0 ≤ m128.1 14 ∧ m128.1 14 ≤ 10 := hm130.1 14
    have h141 : m128.1 15 = m90.1 15 := hc131.1 15 rfl
    have h142 : (-1) ≤ m128.1 15 ∧ m128.1 15 ≤ 5 := hm130.1 15
    have h143 : m128.1 16 = m90.1 16 := hc131.1 16 rfl
    have h144 : 0 ≤ m128.1 16 ∧ m128.1 16 ≤ 63 := hm130.1 16
    have h145 : m128.1 17 = m90.1 17 := hc131.1 17 rfl
    have h146 : (-1) ≤ m128.1 17 ∧ m128.1 17 ≤ 3 := hm130.1 17
    have h147 : m128.1 18 = m90.1 18 := hc131.1 18 rfl
    have h148 : (-1) ≤ m128.1 18 ∧ m128.1 18 ≤ 5 := hm130.1 18
    have h149 : m128.1 22 = m90.1 22 := hc131.1 22 rfl
    have h150 : 0 ≤ m128.1 22 ∧ m128.1 22 ≤ 8 := hm130.1 22
    have t151 : kW m128 := kW_fr hc131 rfl rfl t124
    have t152 : kP m128 := kP_fr hc131 rfl rfl t125
    have t153 : kG m128 := kG_fr hc131 rfl rfl t126
    refine g_pop rfl rfl ?_
    refine g_aload_n (n := 0) rfl rfl ?_
    refine c_vV (i := 0) (ps := []) (r := []) (as := [vR 0]) (cs' := 0) (sl' := 0) rfl rfl rfl rfl rfl rfl (kl_0 _) (c_beginAsTold (d := d - 1) (q := q - (2 + 19)) (by omega) (by omega) hm130  t151 t152) (by omega) (show 2 + 19 ≤ q by omega) (Nat.le_of_ble_eq_true rfl) (Nat.le_of_ble_eq_true rfl) rfl rfl rfl ?_
    rintro m155 ⟨hm157, hc158, p159, p160, p161, p162⟩
    have hf163 : fq [0, 1, 2, 3, 4, 5, 6, 7, 8, 9, 10, 11, 12, 13, 14, 15, 16, 17, 18, 19, 22] [4, 5, 6, 7, 8, 10, 11, 12, 13, 14, 29, 30, 59] m m155 := fq_tr hf134 (fq_le hc158 rfl rfl)
    have h164 : m155.1 13 = m128.1 13 := hc158.1 13 rfl
    have h165 : 2 ≤ m155.1 13 ∧ m155.1 13 ≤ 6 := hm157.1 13
    have h166 : m155.1 14 = m128.1 14 := hc158.1 14 rfl
    have h167 : 0 ≤ m155.1 14 ∧ m155.1 14 ≤ 10 := hm157.1 14
    have h168 : m155.1 15 = m128.1 15 := hc158.1 15 rfl
    have h169 : (-1) ≤ m155.1 15 ∧ m155.1 15 ≤ 5 := hm157.1 15
    have h170 : m155.1 16 = m128.1 16 := hc158.1 16 rfl
    have h171 : 0 ≤ m155.1 16 ∧ m155.1 16 ≤ 63 := hm157.1 16
    have h172 : m155.1 17 = m128.1 17 := hc158.1 17 rfl
    have h173 : (-1) ≤ m155.1 17 ∧ m155.1 17 ≤ 3 := hm157.1 17
    have h174 : m155.1 18 = m128.1 18 := hc158.1 18 rfl
    have h175 : (-1) ≤ m155.1 18 ∧ m155.1 18 ≤ 5 := hm157.1 18
    refine g_aload_n (n := 0) rfl rfl ?_
    refine g_getf (v := vR 1) rfl (kl_0 _) rfl ?_
    have h176 : (-2147483648) ≤ m155.1 4 ∧ m155.1 4 ≤ 2147483647 := hm157.1 4
    have h177 : m155.1 4 = m128.1 4 := hc158.1 4 rfl
    refine g_getf (v := vI (m155.1 4)) rfl (kl_1 _) rfl ?_
    refine g_iret rfl rfl ?_
    have o := ho (by omega)
    have q4 : m155.1 4 = (RD (m.2.1 2) (m.1 3) 10 0 (m.1 7) (m.1 8) (m.1 10)).2.2.2.2 := (hc158.1 4 rfl).trans ((hc131.1 4 rfl).trans ((hc93.1 4 rfl).trans o.2.2.2.1))
    have qY : (m155.2.1 4, m155.2.1 5, m155.2.1 6, m155.2.1 7, m155.1 12) = (RG (m.2.1 2) (m.1 3) 10 0 (m.1 7) (m.1 8) (m.1 10) (m.2.1 4, m.2.1 5, m.2.1 6, m.2.1 7, m.1 12)) := (kY_eq ((hc158.2.1 4 rfl).trans ((hc131.2.1 4 rfl).trans p100)) ((hc158.2.1 5 rfl).trans ((hc131.2.1 5 rfl).trans p101)) ((hc158.2.1 6 rfl).trans ((hc131.2.1 6 rfl).trans p102)) ((hc158.2.1 7 rfl).trans ((hc131.2.1 7 rfl).trans p103)) ((hc158.1 12 rfl).trans ((hc131.1 12 rfl).trans p99))).trans o.2.2.2.2.2
    exact ⟨_, _, rfl, hm157, hf163, Or.inl ⟨by rw [← hz]; omega, q4, (hc158.1 7 rfl).trans ((hc131.1 7 rfl).trans (p94.trans o.1)), (hc158.1 8 rfl).trans ((hc131.1 8 rfl).trans (p95.trans o.2.1)), (hc158.1 10 rfl).trans ((hc131.1 10 rfl).trans (p97.trans o.2.2.1)), (hc158.1 3 rfl).trans p133, p161, p162, qY⟩, p159, p160⟩
  · intro kk178
    refine g_bipush (by decide) rfl ?_
    refine g_iret rfl rfl ?_
    exact ⟨_, _, rfl, hm55, hf61, Or.inr ⟨by rw [← hz]; omega, rfl, (hc56.1 7 rfl).trans (hc14.1 7 rfl), (hc56.1 8 rfl).trans (hc14.1 8 rfl), (hc56.1 10 rfl).trans (hc14.1 10 rfl), (hc56.1 3 rfl).trans (hc14.1 3 rfl), (hc56.1 22 rfl).trans (hc14.1 22 rfl), (hc56.1 0 rfl).trans (hc14.1 0 rfl), kY_eq ((hc56.2.1 4 rfl).trans (hc14.2.1 4 rfl)) ((hc56.2.1 5 rfl).trans (hc14.2.1 5 rfl)) ((hc56.2.1 6 rfl).trans (hc14.2.1 6 rfl)) ((hc56.2.1 7 rfl).trans (hc14.2.1 7 rfl)) ((hc56.1 12 rfl).trans (hc14.1 12 rfl))⟩, t80, t81⟩
theorem c_isUnder {V : cg_V} {d q : Nat} (hd : 0 ≤ d) (hq : 0 ≤ q) {m : kM} (hm : kI m) {k a : Int} (h_k : (-1) ≤ k ∧ k ≤ 8) (h_a : (-2147483648) ≤ a ∧ a ≤ 2147483647) : cg_S V d q mX9_isUnder [vI k, vI a] (kl m) (R_I (fun z m' => (m = m') ∧ (z = 0 ∨ z = 1) ∧ (z = unk 8 k a))) := by
  refine cg_of (List.mem_of_getElem? (show ae_MT[94]? = some mX9_isUnder from rfl)) (Nat.le_of_ble_eq_true rfl) ?_
  show cg_G V mX9_isUnder d q _ 0 [(0, vI k), (1, vI a)] [] (kl m) 0 0
  refine g_iload_n (n := 0) rfl rfl ?_
  refine g_istore_n (n := 2) (lo' := [(0, vI k), (1, vI a)]) rfl rfl ?_
  refine g_iconst rfl ?_
  refine g_istore_n (n := 3) (lo' := [(2, vI k), (0, vI k), (1, vI a)]) rfl rfl ?_
  have L4_1 : ∀ (n4_1 : Nat) (o_1 : Int) (i_1 : Int), ((-1) ≤ o_1 ∧ o_1 ≤ 8) → (0 ≤ i_1 ∧ i_1 ≤ 8) → (unk (Int.toNat (8 - i_1)) o_1 a = unk 8 k a) → ((8 - i_1).toNat) = n4_1 → cg_G V mX9_isUnder d q (R_I (fun z m' => (m = m') ∧ (z = 0 ∨ z = 1) ∧ (z = unk 8 k a))) 4 [(3, vI i_1), (2, vI o_1), (0, vI k), (1, vI a)] [] (kl m) 0 0 := by
    intro n4_1
    induction n4_1 using Nat.strongRecOn with
    | _ n4_1 ih4_1 =>
      intro o_1 i_1 i1 i2 iU q3
      refine g_iload_n (n := 3) rfl rfl ?_
      refine g_over (idx := 129) (by decide +kernel) (show decode cX9_isUnder 5 = .ok (.getstatic 129, 3) by decide +kernel) ?_
      refine g_ovlen (show decode cX9_isUnder 8 = .ok (.arraylength, 1) by decide +kernel) ?_
      refine g_icmp_ge (by omega) (by omega) (by decide) (by decide) rfl ?_ ?_
      · intro kk4
        refine g_iconst rfl ?_
        refine g_zret rfl rfl (by omega) ?_
        exact ⟨_, _, rfl, rfl, by omega, (by rw [← iU]; exact (unk_out (by omega)).symm)⟩
      · intro kk5
        refine g_iload_n (n := 2) rfl rfl ?_
        refine g_if_lt (by omega) (by omega) rfl ?_ ?_
        · intro kk6
          refine g_iconst rfl ?_
          refine g_zret rfl rfl (by omega) ?_
          exact ⟨_, _, rfl, rfl, by omega, (by rw [← iU]; exact (unk_out (by omega)).symm)⟩
        · intro kk7
          refine g_iload_n (n := 2) rfl rfl ?_
          refine g_over (idx := 129) (by decide +kernel) (show decode cX9_isUnder 17 = .ok (.getstatic 129, 3) by decide +kernel) ?_
          refine g_ovlen (show decode cX9_isUnder 20 = .ok (.arraylength, 1) by decide +kernel) ?_
          refine g_icmp_ge (by omega) (by omega) (by decide) (by decide) rfl ?_ ?_
          · intro kk8
            refine g_iconst rfl ?_
            refine g_zret rfl rfl (by omega) ?_
            exact ⟨_, _, rfl, rfl, by omega, (by rw [← iU]; exact (unk_out (by omega)).symm)⟩
          · intro kk9
            refine g_iload_n (n := 2) rfl rfl ?_
            refine g_iload_n (n := 1) rfl rfl ?_
            refine g_icmp_ne (by omega) (by omega) (by omega) (by omega) rfl ?_ ?_
            · intro kk10
              refine g_over (idx := 129) (by decide +kernel) (show decode cX9_isUnder 31 = .ok (.getstatic 129, 3) by decide +kernel) ?_
              refine g_iload_n (n := 2) rfl rfl ?_
              refine g_ovld (by omega) (by omega) (show decode cX9_isUnder 35 = .ok (.iaload, 1) by decide +kernel) ?_
              intro z11 h12 h13 h14
              refine g_istore_n (n := 2) (lo' := [(3, vI i_1), (0, vI k), (1, vI a)]) rfl rfl ?_
              have hUn : unk (Int.toNat (8 - (i_1 + 1))) z11 a = unk 8 k a := by rw [← iU, show Int.toNat (8 - i_1) = Int.toNat (8 - (i_1 + 1)) + 1 by omega, unk_s (by omega) (by omega) (by omega), ← h14]
              refine g_iinc (n := 3) (lo' := [(2, vI z11), (0, vI k), (1, vI a)]) rfl rfl rfl ?_
              refine g_goto rfl ?_
              exact ih4_1 _ (by omega) z11 (i_1 + 1) (by omega) (by omega) hUn rfl
            · intro kk15
              refine g_iconst rfl ?_
              refine g_zret rfl rfl (by omega) ?_
              exact ⟨_, _, rfl, rfl, by omega, (by rw [← iU, show Int.toNat (8 - i_1) = Int.toNat (7 - i_1) + 1 by omega]; exact (unk_hit (by omega) (by omega) (by omega)).symm)⟩
  exact L4_1 _ k 0 (by omega) (by omega) rfl rfl
theorem c_as {V : cg_V} {d q : Nat} (hd : 2 ≤ d) (hq : 45 ≤ q) {m : kM} (hm : kI m) {a w : Int} (h_a : (-2147483648) ≤ a ∧ a ≤ 2147483647) (h_w : (-2147483648) ≤ w ∧ w ≤ 2147483647) : cg_S V d q mX9_as [vR 0, vI a, vI w] (kl m) (R_I (fun z m' => (m = m') ∧ (-4 ≤ z) ∧ (z ≤ 2) ∧ (ASZ m a w z))) := by
  refine cg_of (List.mem_of_getElem? (show ae_MT[95]? = some mX9_as from rfl)) (Nat.le_of_ble_eq_true rfl) ?_
  show cg_G V mX9_as d q _ 0 [(0, vR 0), (1, vI a), (2, vI w)] [] (kl m) 0 0
  refine g_aload_n (n := 0) rfl rfl ?_
  refine g_getf (v := vR 3) rfl (kl_0 _) rfl ?_
  refine g_iload_n (n := 1) rfl rfl ?_
  have h1 : 0 ≤ m.1 8 ∧ m.1 8 ≤ 10 := hm.1 8
  refine c_vI (i := 3) (ps := [vI a]) (r := []) (as := [vR 3, vI a]) (cs' := 0) (sl' := 0) rfl rfl rfl rfl rfl rfl (kl_3 _) (c_hasDoor (d := d - 1) (q := q - (2 + 19)) (by omega) (by omega) hm (a := a) (show (-2147483648) ≤ a ∧ a ≤ 2147483647 by omega)) (by omega) (show 2 + 19 ≤ q by omega) (Nat.le_of_ble_eq_true rfl) (Nat.le_of_ble_eq_true rfl) rfl rfl rfl ?_
  rintro z2 m3 ⟨rfl, p5⟩
  refine g_if_ne (by omega) (by omega) rfl ?_ ?_
  · intro kk6
    refine g_iload_n (n := 2) rfl rfl ?_
    refine g_if_lt (by omega) (by omega) rfl ?_ ?_
    · intro kk7
      refine g_bipush (by decide) rfl ?_
      refine g_iret rfl rfl ?_
      exact ⟨_, _, rfl, rfl, by omega, by omega, (by unfold ASZ; omega)⟩
    · intro kk8
      refine g_iload_n (n := 2) rfl rfl ?_
      refine g_over (idx := 129) (by decide +kernel) (show decode cX9_as 19 = .ok (.getstatic 129, 3) by decide +kernel) ?_
      refine g_ovlen (show decode cX9_as 22 = .ok (.arraylength, 1) by decide +kernel) ?_
      refine g_icmp_lt (by omega) (by omega) (by decide) (by decide) rfl ?_ ?_
      · intro kk9
        refine g_aload_n (n := 0) rfl rfl ?_
        refine g_getf (v := vR 3) rfl (kl_0 _) rfl ?_
        refine g_getf (v := vR 6) rfl (kl_3 _) rfl ?_
        refine g_iload_n (n := 1) rfl rfl ?_
        have h10 : 0 ≤ m.2.1 6 a ∧ m.2.1 6 a ≤ 5 := hm.2 6 a (by omega) (show a < (10 : Int) by omega)
        refine g_iald (f := m.2.1 6) rfl (kl_6 _) (by decide) (by omega) (by omega) ?_
        refine g_iconst rfl ?_
        refine g_iadd rfl ?_
        refine g_iload_n (n := 2) rfl rfl ?_
        refine c_sI (ps := [vI w, vI (m.2.1 6 a + 2)]) (r := []) (as := [vI (m.2.1 6 a + 2), vI w]) (cs' := 0) (sl' := 0) rfl rfl rfl rfl rfl rfl (c_isUnder (d := d - 1) (q := q - (4 + 19)) (by omega) (by omega) hm (k := (m.2.1 6 a + 2)) (a := w) (show (-1) ≤ (m.2.1 6 a + 2) ∧ (m.2.1 6 a + 2) ≤ 8 by omega) (show (-2147483648) ≤ w ∧ w ≤ 2147483647 by omega)) (by omega) (show 4 + 19 ≤ q by omega) (Nat.le_of_ble_eq_true rfl) (Nat.le_of_ble_eq_true rfl) rfl rfl rfl ?_
        rintro z11 m12 ⟨rfl, p14, p15⟩
        refine g_if_ne (by omega) (by omega) rfl ?_ ?_
        · intro kk16
          refine g_aload_n (n := 0) rfl rfl ?_
          refine g_getf (v := vR 3) rfl (kl_0 _) rfl ?_
          refine g_iload_n (n := 1) rfl rfl ?_
          refine g_aload_n (n := 0) rfl rfl ?_
          refine g_getf (v := vR 3) rfl (kl_0 _) rfl ?_
          refine g_getf (v := vR 4) rfl (kl_3 _) rfl ?_
          refine g_iload_n (n := 1) rfl rfl ?_
          have h17 : 0 ≤ m.2.1 4 a ∧ m.2.1 4 a ≤ 5 := hm.2 4 a (by omega) (show a < (10 : Int) by omega)
          refine g_iald (f := m.2.1 4) rfl (kl_4 _) (by decide) (by omega) (by omega) ?_
          refine g_bipush (by decide) rfl ?_
          refine g_iconst rfl ?_
          refine c_vI (i := 3) (ps := [vI 0, vI 14, vI (m.2.1 4 a), vI a]) (r := []) (as := [vR 3, vI a, vI (m.2.1 4 a), vI 14, vI 0]) (cs' := 0) (sl' := 0) rfl rfl rfl rfl rfl rfl (kl_3 _) (c_opens (d := d - 1) (q := q - (5 + 19)) (by omega) (by omega) hm (a := a) (r := m.2.1 4 a) (b := 14) (l := 0) (show (-2147483648) ≤ a ∧ a ≤ 2147483647 by omega) (show (-2147483648) ≤ m.2.1 4 a ∧ m.2.1 4 a ≤ 2147483647 by omega) (show (-2147483648) ≤ 14 ∧ 14 ≤ 2147483647 by omega) (show 0 ≤ 0 ∧ 0 ≤ 1 by omega)) (by omega) (show 5 + 19 ≤ q by omega) (Nat.le_of_ble_eq_true rfl) (Nat.le_of_ble_eq_true rfl) rfl rfl rfl ?_
          rintro z18 m19 ⟨rfl, p21, p22⟩
          refine g_if_eq (by omega) (by omega) rfl ?_ ?_
          · intro kk23
            refine g_iconst rfl ?_
            refine g_istore_n (n := 3) (lo' := [(0, vR 0), (1, vI a), (2, vI w)]) rfl rfl ?_
            refine g_aload_n (n := 0) rfl rfl ?_
            refine g_getf (v := vR 3) rfl (kl_0 _) rfl ?_
            refine g_iload_n (n := 1) rfl rfl ?_
            refine g_aload_n (n := 0) rfl rfl ?_
            refine g_getf (v := vR 3) rfl (kl_0 _) rfl ?_
            refine g_getf (v := vR 5) rfl (kl_3 _) rfl ?_
            refine g_iload_n (n := 1) rfl rfl ?_
            have h24 : 0 ≤ m.2.1 5 a ∧ m.2.1 5 a ≤ 5 := hm.2 5 a (by omega) (show a < (10 : Int) by omega)
            refine g_iald (f := m.2.1 5) rfl (kl_5 _) (by decide) (by omega) (by omega) ?_
            refine g_bipush (by decide) rfl ?_
            refine g_iconst rfl ?_
            refine c_vI (i := 3) (ps := [vI 0, vI 14, vI (m.2.1 5 a), vI a]) (r := []) (as := [vR 3, vI a, vI (m.2.1 5 a), vI 14, vI 0]) (cs' := 0) (sl' := 0) rfl rfl rfl rfl rfl rfl (kl_3 _) (c_opens (d := d - 1) (q := q - (5 + 19)) (by omega) (by omega) hm (a := a) (r := m.2.1 5 a) (b := 14) (l := 0) (show (-2147483648) ≤ a ∧ a ≤ 2147483647 by omega) (show (-2147483648) ≤ m.2.1 5 a ∧ m.2.1 5 a ≤ 2147483647 by omega) (show (-2147483648) ≤ 14 ∧ 14 ≤ 2147483647 by omega) (show 0 ≤ 0 ∧ 0 ≤ 1 by omega)) (by omega) (show 5 + 19 ≤ q by omega) (Nat.le_of_ble_eq_true rfl) (Nat.le_of_ble_eq_true rfl) rfl rfl rfl ?_
            rintro z25 m26 ⟨rfl, p28, p29⟩
            refine g_if_eq (by omega) (by omega) rfl ?_ ?_
            · intro kk30
              refine g_iconst rfl ?_
              refine g_istore (n := 4) (lo' := [(3, vI 0), (0, vR 0), (1, vI a), (2, vI w)]) rfl rfl ?_
              refine g_iload_n (n := 3) rfl rfl ?_
              refine g_iload (n := 4) rfl rfl ?_
              refine g_iadd rfl ?_
              refine g_iret rfl rfl ?_
              have ha : 0 ≤ a ∧ a < m.1 8 := by omega
              have o1 := p22
              have o2 := p29
              unfold OPZ at o1 o2
              rw [if_pos ha] at o1 o2
              exact ⟨_, _, rfl, rfl, by omega, by omega, (by unfold ASZ; right; right; right; exact ⟨by omega, by omega, by omega, by omega, by rw [← p15]; omega, by rw [← o1, ← o2]; omega⟩)⟩
            · intro kk31
              refine g_iconst rfl ?_
              refine g_goto rfl ?_
              refine g_istore (n := 4) (lo' := [(3, vI 0), (0, vR 0), (1, vI a), (2, vI w)]) rfl rfl ?_
              refine g_iload_n (n := 3) rfl rfl ?_
              refine g_iload (n := 4) rfl rfl ?_
              refine g_iadd rfl ?_
              refine g_iret rfl rfl ?_
              have ha : 0 ≤ a ∧ a < m.1 8 := by omega
              have o1 := p22
              have o2 := p29
              unfold OPZ at o1 o2
              rw [if_pos ha] at o1 o2
              exact ⟨_, _, rfl, rfl, by omega, by omega, (by unfold ASZ; right; right; right; exact ⟨by omega, by omega, by omega, by omega, by rw [← p15]; omega, by rw [← o1, ← o2]; omega⟩)⟩
          · intro kk32
            refine g_iconst rfl ?_
            refine g_goto rfl ?_
            refine g_istore_n (n := 3) (lo' := [(0, vR 0), (1, vI a), (2, vI w)]) rfl rfl ?_
            refine g_aload_n (n := 0) rfl rfl ?_
            refine g_getf (v := vR 3) rfl (kl_0 _) rfl ?_
            refine g_iload_n (n := 1) rfl rfl ?_
            refine g_aload_n (n := 0) rfl rfl ?_
            refine g_getf (v := vR 3) rfl (kl_0 _) rfl ?_
            refine g_getf (v := vR 5) rfl (kl_3 _) rfl ?_
            refine g_iload_n (n := 1) rfl rfl ?_
            have h33 : 0 ≤ m.2.1 5 a ∧ m.2.1 5 a ≤ 5 := hm.2 5 a (by omega) (show a < (10 : Int) by omega)
            refine g_iald (f := m.2.1 5) rfl (kl_5 _) (by decide) (by omega) (by omega) ?_
            refine g_bipush (by decide) rfl ?_
            refine g_iconst rfl ?_
            refine c_vI (i := 3) (ps := [vI 0, vI 14, vI (m.2.1 5 a), vI a]) (r := []) (as := [vR 3, vI a, vI (m.2.1 5 a), vI 14, vI 0]) (cs' := 0) (sl' := 0) rfl rfl rfl rfl rfl rfl (kl_3 _) (c_opens (d := d - 1) (q := q - (5 + 19)) (by omega) (by omega) hm (a := a) (r := m.2.1 5 a) (b := 14) (l := 0) (show (-2147483648) ≤ a ∧ a ≤ 2147483647 by omega) (show (-2147483648) ≤ m.2.1 5 a ∧ m.2.1 5 a ≤ 2147483647 by omega) (show (-2147483648) ≤ 14 ∧ 14 ≤ 2147483647 by omega) (show 0 ≤ 0 ∧ 0 ≤ 1 by omega)) (by omega) (show 5 + 19 ≤ q by omega) (Nat.le_of_ble_eq_true rfl) (Nat.le_of_ble_eq_true rfl) rfl rfl rfl ?_
            rintro z34 m35 ⟨rfl, p37, p38⟩
            refine g_if_eq (by omega) (by omega) rfl ?_ ?_
            · intro kk39
              refine g_iconst rfl ?_
              refine g_istore (n := 4) (lo' := [(3, vI 1), (0, vR 0), (1, vI a), (2, vI w)]) rfl rfl ?_
              refine g_iload_n (n := 3) rfl rfl ?_
              refine g_iload (n := 4) rfl rfl ?_
              refine g_iadd rfl ?_
              refine g_iret rfl rfl ?_
              have ha : 0 ≤ a ∧ a < m.1 8 := by omega
              have o1 := p22
              have o2 := p38
              unfold OPZ at o1 o2
              rw [if_pos ha] at o1 o2
              exact ⟨_, _, rfl, rfl, by omega, by omega, (by unfold ASZ; right; right; right; exact ⟨by omega, by omega, by omega, by omega, by rw [← p15]; omega, by rw [← o1, ← o2]; omega⟩)⟩
            · intro kk40
              refine g_iconst rfl ?_
              refine g_goto rfl ?_
              refine g_istore (n := 4) (lo' := [(3, vI 1), (0, vR 0), (1, vI a), (2, vI w)]) rfl rfl ?_
              refine g_iload_n (n := 3) rfl rfl ?_
              refine g_iload (n := 4) rfl rfl ?_
              refine g_iadd rfl ?_
              refine g_iret rfl rfl ?_
              have ha : 0 ≤ a ∧ a < m.1 8 := by omega
              have o1 := p22
              have o2 := p38
              unfold OPZ at o1 o2
              rw [if_pos ha] at o1 o2
              exact ⟨_, _, rfl, rfl, by omega, by omega, (by unfold ASZ; right; right; right; exact ⟨by omega, by omega, by omega, by omega, by rw [← p15]; omega, by rw [← o1, ← o2]; omega⟩)⟩
        · intro kk41
          refine g_bipush (by decide) rfl ?_
          refine g_iret rfl rfl ?_
          exact ⟨_, _, rfl, rfl, by omega, by omega, (by unfold ASZ; right; right; left; exact ⟨by omega, by omega, by omega, by omega, by rw [← p15]; omega, rfl⟩)⟩
      · intro kk42
        refine g_bipush (by decide) rfl ?_
        refine g_iret rfl rfl ?_
        exact ⟨_, _, rfl, rfl, by omega, by omega, (by unfold ASZ; omega)⟩
  · intro kk43
    refine g_bipush (by decide) rfl ?_
    refine g_iret rfl rfl ?_
    exact ⟨_, _, rfl, rfl, by omega, by omega, (by unfold ASZ; omega)⟩
