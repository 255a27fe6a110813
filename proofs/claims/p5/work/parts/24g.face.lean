/-! ===== contracts: the class, the face of texts ===== -/
def WR (f : Int → Int) (p n x : Int) : Int → Int := fun j => if p ≤ j ∧ j < p + n then x / 2 ^ (Int.toNat (8 * (j - p))) % 256 else f j
theorem WR_0 (f : Int → Int) (p x : Int) : WR f p 0 x = f := by
  funext j
  exact if_neg (by omega)
theorem WR_up {f : Int → Int} {p i x v : Int} (h0 : 0 ≤ i) (hv : v = x / 2 ^ (Int.toNat (8 * i)) % 256) : up (WR f p i x) (p + i) v = WR f p (i + 1) x := by
  funext j
  by_cases e : j = p + i
  · subst e
    rw [up_same]
    show _ = if p ≤ p + i ∧ p + i < p + (i + 1) then _ else _
    rw [if_pos (by omega), hv, show p + i - p = i by omega]
  · rw [up_ne _ e]
    show (if p ≤ j ∧ j < p + i then _ else _) = if p ≤ j ∧ j < p + (i + 1) then _ else _
    by_cases q : p ≤ j ∧ j < p + i
    · rw [if_pos q, if_pos (by omega)]
    · rw [if_neg q, if_neg (by omega)]
theorem c_copy93 {V : cg_V} {d q : Nat} (hd : 1 ≤ d) (hq : 80 ≤ q) {m : kM} (hm : kI m) : cg_S V d q mX2_copyFrom [vR 9, vR 3] (kl m) (R_V (fun m' => (kI m') ∧ (fr [13, 14, 15, 16, 17, 18] [10, 11, 12, 13, 14] m m') ∧ (m'.1 13 = m.1 7) ∧ (m'.1 14 = m.1 8) ∧ (m'.1 15 = m.1 9) ∧ (m'.1 16 = m.1 10) ∧ (m'.1 17 = m.1 11) ∧ (m'.1 18 = m.1 12) ∧ (m'.2.1 10 = m.2.1 4) ∧ (m'.2.1 11 = m.2.1 5) ∧ (m'.2.1 12 = m.2.1 6) ∧ (m'.2.1 13 = m.2.1 7) ∧ (m'.2.1 14 = m.2.1 8) ∧ (kG m'))) := by
  have hf0 : fr [13, 14, 15, 16, 17, 18] [10, 11, 12, 13, 14] m m := fr_rf m
  refine cg_of (List.mem_of_getElem? (show ae_MT[42]? = some mX2_copyFrom from rfl)) (Nat.le_of_ble_eq_true rfl) ?_
  show cg_G V mX2_copyFrom d q _ 0 [(0, vR 9), (1, vR 3)] [] (kl m) 0 0
  have h1 : 2 ≤ m.1 7 ∧ m.1 7 ≤ 6 := hm.1 7
  have h2 : 0 ≤ m.1 8 ∧ m.1 8 ≤ 10 := hm.1 8
  have h3 : 0 ≤ m.1 9 ∧ m.1 9 ≤ 5 := hm.1 9
  have h4 : 0 ≤ m.1 10 ∧ m.1 10 ≤ 63 := hm.1 10
  have h5 : 0 ≤ m.1 11 ∧ m.1 11 ≤ 3 := hm.1 11
  have h6 : 0 ≤ m.1 12 ∧ m.1 12 ≤ 5 := hm.1 12
  refine g_aload_n (n := 0) rfl rfl ?_
  refine g_aload_n (n := 1) rfl rfl ?_
  refine g_getf (v := vI (m.1 7)) rfl (kl_3 _) rfl ?_
  refine g_putF (m' := (kF m 13 (m.1 7))) rfl (kl_9 _) rfl rfl rfl rfl (kF_13 _ _) ?_
  have hm7 : kI (kF m 13 (m.1 7)) := kI_F hm 13 (show (2 : Int) ≤ m.1 7 by omega) (show m.1 7 ≤ (6 : Int) by omega)
  have hf8 : fr [13, 14, 15, 16, 17, 18] [10, 11, 12, 13, 14] m (kF m 13 (m.1 7)) := fr_F hf0 13 _ rfl
  refine g_aload_n (n := 0) rfl rfl ?_
  refine g_aload_n (n := 1) rfl rfl ?_
  refine g_getf (v := vI (m.1 8)) rfl (kl_3 _) rfl ?_
  refine g_putF (m' := (kF (kF m 13 (m.1 7)) 14 (m.1 8))) rfl (kl_9 _) rfl rfl rfl rfl (kF_14 _ _) ?_
  have hm9 : kI (kF (kF m 13 (m.1 7)) 14 (m.1 8)) := kI_F hm7 14 (show (0 : Int) ≤ m.1 8 by omega) (show m.1 8 ≤ (10 : Int) by omega)
  have hf10 : fr [13, 14, 15, 16, 17, 18] [10, 11, 12, 13, 14] m (kF (kF m 13 (m.1 7)) 14 (m.1 8)) := fr_F hf8 14 _ rfl
  refine g_aload_n (n := 0) rfl rfl ?_
  refine g_aload_n (n := 1) rfl rfl ?_
  refine g_getf (v := vI (m.1 9)) rfl (kl_3 _) rfl ?_
  refine g_putF (m' := (kF (kF (kF m 13 (m.1 7)) 14 (m.1 8)) 15 (m.1 9))) rfl (kl_9 _) rfl rfl rfl rfl (kF_15 _ _) ?_
  have hm11 : kI (kF (kF (kF m 13 (m.1 7)) 14 (m.1 8)) 15 (m.1 9)) := kI_F hm9 15 (show ((-1) : Int) ≤ m.1 9 by omega) (show m.1 9 ≤ (5 : Int) by omega)
  have hf12 : fr [13, 14, 15, 16, 17, 18] [10, 11, 12, 13, 14] m (kF (kF (kF m 13 (m.1 7)) 14 (m.1 8)) 15 (m.1 9)) := fr_F hf10 15 _ rfl
  refine g_aload_n (n := 0) rfl rfl ?_
  refine g_aload_n (n := 1) rfl rfl ?_
  refine g_getf (v := vI (m.1 10)) rfl (kl_3 _) rfl ?_
  refine g_putF (m' := (kF (kF (kF (kF m 13 (m.1 7)) 14 (m.1 8)) 15 (m.1 9)) 16 (m.1 10))) rfl (kl_9 _) rfl rfl rfl rfl (kF_16 _ _) ?_
  have hm13 : kI (kF (kF (kF (kF m 13 (m.1 7)) 14 (m.1 8)) 15 (m.1 9)) 16 (m.1 10)) := kI_F hm11 16 (show (0 : Int) ≤ m.1 10 by omega) (show m.1 10 ≤ (63 : Int) by omega)
  have hf14 : fr [13, 14, 15, 16, 17, 18] [10, 11, 12, 13, 14] m (kF (kF (kF (kF m 13 (m.1 7)) 14 (m.1 8)) 15 (m.1 9)) 16 (m.1 10)) := fr_F hf12 16 _ rfl
  refine g_aload_n (n := 0) rfl rfl ?_
  refine g_aload_n (n := 1) rfl rfl ?_
  refine g_getf (v := vI (m.1 11)) rfl (kl_3 _) rfl ?_
  refine g_putF (m' := (kF (kF (kF (kF (kF m 13 (m.1 7)) 14 (m.1 8)) 15 (m.1 9)) 16 (m.1 10)) 17 (m.1 11))) rfl (kl_9 _) rfl rfl rfl rfl (kF_17 _ _) ?_
  have hm15 : kI (kF (kF (kF (kF (kF m 13 (m.1 7)) 14 (m.1 8)) 15 (m.1 9)) 16 (m.1 10)) 17 (m.1 11)) := kI_F hm13 17 (show ((-1) : Int) ≤ m.1 11 by omega) (show m.1 11 ≤ (3 : Int) by omega)
  have hf16 : fr [13, 14, 15, 16, 17, 18] [10, 11, 12, 13, 14] m (kF (kF (kF (kF (kF m 13 (m.1 7)) 14 (m.1 8)) 15 (m.1 9)) 16 (m.1 10)) 17 (m.1 11)) := fr_F hf14 17 _ rfl
  refine g_aload_n (n := 0) rfl rfl ?_
  refine g_aload_n (n := 1) rfl rfl ?_
  refine g_getf (v := vI (m.1 12)) rfl (kl_3 _) rfl ?_
  refine g_putF (m' := (kF (kF (kF (kF (kF (kF m 13 (m.1 7)) 14 (m.1 8)) 15 (m.1 9)) 16 (m.1 10)) 17 (m.1 11)) 18 (m.1 12))) rfl (kl_9 _) rfl rfl rfl rfl (kF_18 _ _) ?_
  have hm17 : kI (kF (kF (kF (kF (kF (kF m 13 (m.1 7)) 14 (m.1 8)) 15 (m.1 9)) 16 (m.1 10)) 17 (m.1 11)) 18 (m.1 12)) := kI_F hm15 18 (show ((-1) : Int) ≤ m.1 12 by omega) (show m.1 12 ≤ (5 : Int) by omega)
  have hf18 : fr [13, 14, 15, 16, 17, 18] [10, 11, 12, 13, 14] m (kF (kF (kF (kF (kF (kF m 13 (m.1 7)) 14 (m.1 8)) 15 (m.1 9)) 16 (m.1 10)) 17 (m.1 11)) 18 (m.1 12)) := fr_F hf16 18 _ rfl
  refine g_aload_n (n := 1) rfl rfl ?_
  refine g_getf (v := vR 4) rfl (kl_3 _) rfl ?_
  refine g_iconst rfl ?_
  refine g_aload_n (n := 0) rfl rfl ?_
  refine g_getf (v := vR 10) rfl (kl_9 _) rfl ?_
  refine g_iconst rfl ?_
  refine g_bipush (by decide) rfl ?_
  refine g_Acp (n := 10) (f := m.2.1 10) (g := m.2.1 4) (m' := (kA (kF (kF (kF (kF (kF (kF m 13 (m.1 7)) 14 (m.1 8)) 15 (m.1 9)) 16 (m.1 10)) 17 (m.1 11)) 18 (m.1 12)) 10 (m.2.1 4))) rfl rfl (kl_10 _) (kl_4 _) (by decide) (by omega) (show _ + 60 ≤ q from Nat.le_trans (Nat.le_of_ble_eq_true rfl : _ ≤ 80) (by omega)) (kA_10 _ _) ?_
  have hm19 : kI (kA (kF (kF (kF (kF (kF (kF m 13 (m.1 7)) 14 (m.1 8)) 15 (m.1 9)) 16 (m.1 10)) 17 (m.1 11)) 18 (m.1 12)) 10 (m.2.1 4)) := kI_A hm17 10 (fun j a b => (by have h9 := hm17.2 4 j a b; have h8 : (0 : Int) ≤ m.2.1 4 j ∧ m.2.1 4 j ≤ 5 := h9; exact (show (0 : Int) ≤ m.2.1 4 j ∧ m.2.1 4 j ≤ 5 by omega)))
  have hf20 : fr [13, 14, 15, 16, 17, 18] [10, 11, 12, 13, 14] m (kA (kF (kF (kF (kF (kF (kF m 13 (m.1 7)) 14 (m.1 8)) 15 (m.1 9)) 16 (m.1 10)) 17 (m.1 11)) 18 (m.1 12)) 10 (m.2.1 4)) := fr_A hf18 10 _ rfl
  refine g_aload_n (n := 1) rfl rfl ?_
  refine g_getf (v := vR 5) rfl (kl_3 _) rfl ?_
  refine g_iconst rfl ?_
  refine g_aload_n (n := 0) rfl rfl ?_
  refine g_getf (v := vR 11) rfl (kl_9 _) rfl ?_
  refine g_iconst rfl ?_
  refine g_bipush (by decide) rfl ?_
  refine g_Acp (n := 10) (f := m.2.1 11) (g := m.2.1 5) (m' := (kA (kA (kF (kF (kF (kF (kF (kF m 13 (m.1 7)) 14 (m.1 8)) 15 (m.1 9)) 16 (m.1 10)) 17 (m.1 11)) 18 (m.1 12)) 10 (m.2.1 4)) 11 (m.2.1 5))) rfl rfl (kl_11 _) (kl_5 _) (by decide) (by omega) (show _ + 60 ≤ q from Nat.le_trans (Nat.le_of_ble_eq_true rfl : _ ≤ 80) (by omega)) (kA_11 _ _) ?_
  have hm21 : kI (kA (kA (kF (kF (kF (kF (kF (kF m 13 (m.1 7)) 14 (m.1 8)) 15 (m.1 9)) 16 (m.1 10)) 17 (m.1 11)) 18 (m.1 12)) 10 (m.2.1 4)) 11 (m.2.1 5)) := kI_A hm19 11 (fun j a b => (by have h9 := hm19.2 5 j a b; have h8 : (0 : Int) ≤ m.2.1 5 j ∧ m.2.1 5 j ≤ 5 := h9; exact (show (0 : Int) ≤ m.2.1 5 j ∧ m.2.1 5 j ≤ 5 by omega)))
  have hf22 : fr [13, 14, 15, 16, 17, 18] [10, 11, 12, 13, 14] m (kA (kA (kF (kF (kF (kF (kF (kF m 13 (m.1 7)) 14 (m.1 8)) 15 (m.1 9)) 16 (m.1 10)) 17 (m.1 11)) 18 (m.1 12)) 10 (m.2.1 4)) 11 (m.2.1 5)) := fr_A hf20 11 _ rfl
  refine g_aload_n (n := 1) rfl rfl ?_
  refine g_getf (v := vR 6) rfl (kl_3 _) rfl ?_
  refine g_iconst rfl ?_
  refine g_aload_n (n := 0) rfl rfl ?_
  refine g_getf (v := vR 12) rfl (kl_9 _) rfl ?_
  refine g_iconst rfl ?_
  refine g_bipush (by decide) rfl ?_
  refine g_Acp (n := 10) (f := m.2.1 12) (g := m.2.1 6) (m' := (kA (kA (kA (kF (kF (kF (kF (kF (kF m 13 (m.1 7)) 14 (m.1 8)) 15 (m.1 9)) 16 (m.1 10)) 17 (m.1 11)) 18 (m.1 12)) 10 (m.2.1 4)) 11 (m.2.1 5)) 12 (m.2.1 6))) rfl rfl (kl_12 _) (kl_6 _) (by decide) (by omega) (show _ + 60 ≤ q from Nat.le_trans (Nat.le_of_ble_eq_true rfl : _ ≤ 80) (by omega)) (kA_12 _ _) ?_
  have hm23 : kI (kA (kA (kA (kF (kF (kF (kF (kF (kF m 13 (m.1 7)) 14 (m.1 8)) 15 (m.1 9)) 16 (m.1 10)) 17 (m.1 11)) 18 (m.1 12)) 10 (m.2.1 4)) 11 (m.2.1 5)) 12 (m.2.1 6)) := kI_A hm21 12 (fun j a b => (by have h9 := hm21.2 6 j a b; have h8 : (0 : Int) ≤ m.2.1 6 j ∧ m.2.1 6 j ≤ 5 := h9; exact (show (0 : Int) ≤ m.2.1 6 j ∧ m.2.1 6 j ≤ 5 by omega)))
  have hf24 : fr [13, 14, 15, 16, 17, 18] [10, 11, 12, 13, 14] m (kA (kA (kA (kF (kF (kF (kF (kF (kF m 13 (m.1 7)) 14 (m.1 8)) 15 (m.1 9)) 16 (m.1 10)) 17 (m.1 11)) 18 (m.1 12)) 10 (m.2.1 4)) 11 (m.2.1 5)) 12 (m.2.1 6)) := fr_A hf22 12 _ rfl
  refine g_aload_n (n := 1) rfl rfl ?_
  refine g_getf (v := vR 7) rfl (kl_3 _) rfl ?_
  refine g_iconst rfl ?_
  refine g_aload_n (n := 0) rfl rfl ?_
  refine g_getf (v := vR 13) rfl (kl_9 _) rfl ?_
  refine g_iconst rfl ?_
  refine g_bipush (by decide) rfl ?_
  refine g_Acp (n := 10) (f := m.2.1 13) (g := m.2.1 7) (m' := (kA (kA (kA (kA (kF (kF (kF (kF (kF (kF m 13 (m.1 7)) 14 (m.1 8)) 15 (m.1 9)) 16 (m.1 10)) 17 (m.1 11)) 18 (m.1 12)) 10 (m.2.1 4)) 11 (m.2.1 5)) 12 (m.2.1 6)) 13 (m.2.1 7))) rfl rfl (kl_13 _) (kl_7 _) (by decide) (by omega) (show _ + 60 ≤ q from Nat.le_trans (Nat.le_of_ble_eq_true rfl : _ ≤ 80) (by omega)) (kA_13 _ _) ?_
  have hm25 : kI (kA (kA (kA (kA (kF (kF (kF (kF (kF (kF m 13 (m.1 7)) 14 (m.1 8)) 15 (m.1 9)) 16 (m.1 10)) 17 (m.1 11)) 18 (m.1 12)) 10 (m.2.1 4)) 11 (m.2.1 5)) 12 (m.2.1 6)) 13 (m.2.1 7)) := kI_A hm23 13 (fun j a b => (by have h9 := hm23.2 7 j a b; have h8 : (0 : Int) ≤ m.2.1 7 j ∧ m.2.1 7 j ≤ 1 := h9; exact (show (0 : Int) ≤ m.2.1 7 j ∧ m.2.1 7 j ≤ 1 by omega)))
  have hf26 : fr [13, 14, 15, 16, 17, 18] [10, 11, 12, 13, 14] m (kA (kA (kA (kA (kF (kF (kF (kF (kF (kF m 13 (m.1 7)) 14 (m.1 8)) 15 (m.1 9)) 16 (m.1 10)) 17 (m.1 11)) 18 (m.1 12)) 10 (m.2.1 4)) 11 (m.2.1 5)) 12 (m.2.1 6)) 13 (m.2.1 7)) := fr_A hf24 13 _ rfl
  refine g_aload_n (n := 1) rfl rfl ?_
  refine g_getf (v := vR 8) rfl (kl_3 _) rfl ?_
  refine g_iconst rfl ?_
  refine g_aload_n (n := 0) rfl rfl ?_
  refine g_getf (v := vR 14) rfl (kl_9 _) rfl ?_
  refine g_iconst rfl ?_
  refine g_iconst rfl ?_
  refine g_Acp (n := 2) (f := m.2.1 14) (g := m.2.1 8) (m' := (kA (kA (kA (kA (kA (kF (kF (kF (kF (kF (kF m 13 (m.1 7)) 14 (m.1 8)) 15 (m.1 9)) 16 (m.1 10)) 17 (m.1 11)) 18 (m.1 12)) 10 (m.2.1 4)) 11 (m.2.1 5)) 12 (m.2.1 6)) 13 (m.2.1 7)) 14 (m.2.1 8))) rfl rfl (kl_14 _) (kl_8 _) (by decide) (by omega) (show _ + 60 ≤ q from Nat.le_trans (Nat.le_of_ble_eq_true rfl : _ ≤ 80) (by omega)) (kA_14 _ _) ?_
  have hm27 : kI (kA (kA (kA (kA (kA (kF (kF (kF (kF (kF (kF m 13 (m.1 7)) 14 (m.1 8)) 15 (m.1 9)) 16 (m.1 10)) 17 (m.1 11)) 18 (m.1 12)) 10 (m.2.1 4)) 11 (m.2.1 5)) 12 (m.2.1 6)) 13 (m.2.1 7)) 14 (m.2.1 8)) := kI_A hm25 14 (fun j a b => (by have h9 := hm25.2 8 j a b; have h8 : (0 : Int) ≤ m.2.1 8 j ∧ m.2.1 8 j ≤ 5 := h9; exact (show ((-1) : Int) ≤ m.2.1 8 j ∧ m.2.1 8 j ≤ 5 by omega)))
  have hf28 : fr [13, 14, 15, 16, 17, 18] [10, 11, 12, 13, 14] m (kA (kA (kA (kA (kA (kF (kF (kF (kF (kF (kF m 13 (m.1 7)) 14 (m.1 8)) 15 (m.1 9)) 16 (m.1 10)) 17 (m.1 11)) 18 (m.1 12)) 10 (m.2.1 4)) 11 (m.2.1 5)) 12 (m.2.1 6)) 13 (m.2.1 7)) 14 (m.2.1 8)) := fr_A hf26 14 _ rfl
  refine g_vret rfl rfl ?_
  exact ⟨_, rfl, hm27, hf28, rfl, rfl, rfl, rfl, rfl, rfl, rfl, rfl, rfl, rfl, rfl, (by have a1 : 0 ≤ m.1 9 ∧ m.1 9 ≤ 5 := hm.1 9; have a2 : 0 ≤ m.1 11 ∧ m.1 11 ≤ 3 := hm.1 11; have a3 : 0 ≤ m.1 12 ∧ m.1 12 ≤ 5 := hm.1 12; exact ⟨a1.1, a2.1, a3.1, (hm.2 8 0 (by decide) (by decide)).1, (hm.2 8 1 (by decide) (by decide)).1⟩)⟩
theorem c_copy39 {V : cg_V} {d q : Nat} (hd : 1 ≤ d) (hq : 80 ≤ q) {m : kM} (hm : kI m) (h_kG : kG m) : cg_S V d q mX2_copyFrom [vR 3, vR 9] (kl m) (R_V (fun m' => (kI m') ∧ (fr [7, 8, 9, 10, 11, 12] [4, 5, 6, 7, 8] m m') ∧ (m'.1 7 = m.1 13) ∧ (m'.1 8 = m.1 14) ∧ (m'.1 9 = m.1 15) ∧ (m'.1 10 = m.1 16) ∧ (m'.1 11 = m.1 17) ∧ (m'.1 12 = m.1 18) ∧ (m'.2.1 4 = m.2.1 10) ∧ (m'.2.1 5 = m.2.1 11) ∧ (m'.2.1 6 = m.2.1 12) ∧ (m'.2.1 7 = m.2.1 13) ∧ (m'.2.1 8 = m.2.1 14))) := by
  have hf0 : fr [7, 8, 9, 10, 11, 12] [4, 5, 6, 7, 8] m m := fr_rf m
  refine cg_of (List.mem_of_getElem? (show ae_MT[42]? = some mX2_copyFrom from rfl)) (Nat.le_of_ble_eq_true rfl) ?_
  show cg_G V mX2_copyFrom d q _ 0 [(0, vR 3), (1, vR 9)] [] (kl m) 0 0
  have h1 : 2 ≤ m.1 13 ∧ m.1 13 ≤ 6 := hm.1 13
  have h2 : 0 ≤ m.1 14 ∧ m.1 14 ≤ 10 := hm.1 14
  have h3 : (-1) ≤ m.1 15 ∧ m.1 15 ≤ 5 := hm.1 15
  have h4 : 0 ≤ m.1 16 ∧ m.1 16 ≤ 63 := hm.1 16
  have h5 : (-1) ≤ m.1 17 ∧ m.1 17 ≤ 3 := hm.1 17
  have h6 : (-1) ≤ m.1 18 ∧ m.1 18 ≤ 5 := hm.1 18
  have hg := h_kG
  unfold kG at hg
  refine g_aload_n (n := 0) rfl rfl ?_
  refine g_aload_n (n := 1) rfl rfl ?_
  refine g_getf (v := vI (m.1 13)) rfl (kl_9 _) rfl ?_
  refine g_putF (m' := (kF m 7 (m.1 13))) rfl (kl_3 _) rfl rfl rfl rfl (kF_7 _ _) ?_
  have hm7 : kI (kF m 7 (m.1 13)) := kI_F hm 7 (show (2 : Int) ≤ m.1 13 by omega) (show m.1 13 ≤ (6 : Int) by omega)
  have hf8 : fr [7, 8, 9, 10, 11, 12] [4, 5, 6, 7, 8] m (kF m 7 (m.1 13)) := fr_F hf0 7 _ rfl
  refine g_aload_n (n := 0) rfl rfl ?_
  refine g_aload_n (n := 1) rfl rfl ?_
  refine g_getf (v := vI (m.1 14)) rfl (kl_9 _) rfl ?_
  refine g_putF (m' := (kF (kF m 7 (m.1 13)) 8 (m.1 14))) rfl (kl_3 _) rfl rfl rfl rfl (kF_8 _ _) ?_
  have hm9 : kI (kF (kF m 7 (m.1 13)) 8 (m.1 14)) := kI_F hm7 8 (show (0 : Int) ≤ m.1 14 by omega) (show m.1 14 ≤ (10 : Int) by omega)
  have hf10 : fr [7, 8, 9, 10, 11, 12] [4, 5, 6, 7, 8] m (kF (kF m 7 (m.1 13)) 8 (m.1 14)) := fr_F hf8 8 _ rfl
  refine g_aload_n (n := 0) rfl rfl ?_
  refine g_aload_n (n := 1) rfl rfl ?_
  refine g_getf (v := vI (m.1 15)) rfl (kl_9 _) rfl ?_
  refine g_putF (m' := (kF (kF (kF m 7 (m.1 13)) 8 (m.1 14)) 9 (m.1 15))) rfl (kl_3 _) rfl rfl rfl rfl (kF_9 _ _) ?_
  have hm11 : kI (kF (kF (kF m 7 (m.1 13)) 8 (m.1 14)) 9 (m.1 15)) := kI_F hm9 9 (show (0 : Int) ≤ m.1 15 by omega) (show m.1 15 ≤ (5 : Int) by omega)
  have hf12 : fr [7, 8, 9, 10, 11, 12] [4, 5, 6, 7, 8] m (kF (kF (kF m 7 (m.1 13)) 8 (m.1 14)) 9 (m.1 15)) := fr_F hf10 9 _ rfl
  refine g_aload_n (n := 0) rfl rfl ?_
  refine g_aload_n (n := 1) rfl rfl ?_
  refine g_getf (v := vI (m.1 16)) rfl (kl_9 _) rfl ?_
  refine g_putF (m' := (kF (kF (kF (kF m 7 (m.1 13)) 8 (m.1 14)) 9 (m.1 15)) 10 (m.1 16))) rfl (kl_3 _) rfl rfl rfl rfl (kF_10 _ _) ?_
  have hm13 : kI (kF (kF (kF (kF m 7 (m.1 13)) 8 (m.1 14)) 9 (m.1 15)) 10 (m.1 16)) := kI_F hm11 10 (show (0 : Int) ≤ m.1 16 by omega) (show m.1 16 ≤ (63 : Int) by omega)
  have hf14 : fr [7, 8, 9, 10, 11, 12] [4, 5, 6, 7, 8] m (kF (kF (kF (kF m 7 (m.1 13)) 8 (m.1 14)) 9 (m.1 15)) 10 (m.1 16)) := fr_F hf12 10 _ rfl
  refine g_aload_n (n := 0) rfl rfl ?_
  refine g_aload_n (n := 1) rfl rfl ?_
  refine g_getf (v := vI (m.1 17)) rfl (kl_9 _) rfl ?_
  refine g_putF (m' := (kF (kF (kF (kF (kF m 7 (m.1 13)) 8 (m.1 14)) 9 (m.1 15)) 10 (m.1 16)) 11 (m.1 17))) rfl (kl_3 _) rfl rfl rfl rfl (kF_11 _ _) ?_
  have hm15 : kI (kF (kF (kF (kF (kF m 7 (m.1 13)) 8 (m.1 14)) 9 (m.1 15)) 10 (m.1 16)) 11 (m.1 17)) := kI_F hm13 11 (show (0 : Int) ≤ m.1 17 by omega) (show m.1 17 ≤ (3 : Int) by omega)
  have hf16 : fr [7, 8, 9, 10, 11, 12] [4, 5, 6, 7, 8] m (kF (kF (kF (kF (kF m 7 (m.1 13)) 8 (m.1 14)) 9 (m.1 15)) 10 (m.1 16)) 11 (m.1 17)) := fr_F hf14 11 _ rfl
  refine g_aload_n (n := 0) rfl rfl ?_
  refine g_aload_n (n := 1) rfl rfl ?_
  refine g_getf (v := vI (m.1 18)) rfl (kl_9 _) rfl ?_
  refine g_putF (m' := (kF (kF (kF (kF (kF (kF m 7 (m.1 13)) 8 (m.1 14)) 9 (m.1 15)) 10 (m.1 16)) 11 (m.1 17)) 12 (m.1 18))) rfl (kl_3 _) rfl rfl rfl rfl (kF_12 _ _) ?_
  have hm17 : kI (kF (kF (kF (kF (kF (kF m 7 (m.1 13)) 8 (m.1 14)) 9 (m.1 15)) 10 (m.1 16)) 11 (m.1 17)) 12 (m.1 18)) := kI_F hm15 12 (show (0 : Int) ≤ m.1 18 by omega) (show m.1 18 ≤ (5 : Int) by omega)
  have hf18 : fr [7, 8, 9, 10, 11, 12] [4, 5, 6, 7, 8] m (kF (kF (kF (kF (kF (kF m 7 (m.1 13)) 8 (m.1 14)) 9 (m.1 15)) 10 (m.1 16)) 11 (m.1 17)) 12 (m.1 18)) := fr_F hf16 12 _ rfl
  refine g_aload_n (n := 1) rfl rfl ?_
  refine g_getf (v := vR 10) rfl (kl_9 _) rfl ?_
  refine g_iconst rfl ?_
  refine g_aload_n (n := 0) rfl rfl ?_
  refine g_getf (v := vR 4) rfl (kl_3 _) rfl ?_
  refine g_iconst rfl ?_
  refine g_bipush (by decide) rfl ?_
  refine g_Acp (n := 10) (f := m.2.1 4) (g := m.2.1 10) (m' := (kA (kF (kF (kF (kF (kF (kF m 7 (m.1 13)) 8 (m.1 14)) 9 (m.1 15)) 10 (m.1 16)) 11 (m.1 17)) 12 (m.1 18)) 4 (m.2.1 10))) rfl rfl (kl_4 _) (kl_10 _) (by decide) (by omega) (show _ + 60 ≤ q from Nat.le_trans (Nat.le_of_ble_eq_true rfl : _ ≤ 80) (by omega)) (kA_4 _ _) ?_
  have hm19 : kI (kA (kF (kF (kF (kF (kF (kF m 7 (m.1 13)) 8 (m.1 14)) 9 (m.1 15)) 10 (m.1 16)) 11 (m.1 17)) 12 (m.1 18)) 4 (m.2.1 10)) := kI_A hm17 4 (fun j a b => (by have h9 := hm17.2 10 j a b; have h8 : (0 : Int) ≤ m.2.1 10 j ∧ m.2.1 10 j ≤ 5 := h9; exact (show (0 : Int) ≤ m.2.1 10 j ∧ m.2.1 10 j ≤ 5 by omega)))
  have hf20 : fr [7, 8, 9, 10, 11, 12] [4, 5, 6, 7, 8] m (kA (kF (kF (kF (kF (kF (kF m 7 (m.1 13)) 8 (m.1 14)) 9 (m.1 15)) 10 (m.1 16)) 11 (m.1 17)) 12 (m.1 18)) 4 (m.2.1 10)) := fr_A hf18 4 _ rfl
  refine g_aload_n (n := 1) rfl rfl ?_
  refine g_getf (v := vR 11) rfl (kl_9 _) rfl ?_
  refine g_iconst rfl ?_
  refine g_aload_n (n := 0) rfl rfl ?_
  refine g_getf (v := vR 5) rfl (kl_3 _) rfl ?_
  refine g_iconst rfl ?_
  refine g_bipush (by decide) rfl ?_
  refine g_Acp (n := 10) (f := m.2.1 5) (g := m.2.1 11) (m' := (kA (kA (kF (kF (kF (kF (kF (kF m 7 (m.1 13)) 8 (m.1 14)) 9 (m.1 15)) 10 (m.1 16)) 11 (m.1 17)) 12 (m.1 18)) 4 (m.2.1 10)) 5 (m.2.1 11))) rfl rfl (kl_5 _) (kl_11 _) (by decide) (by omega) (show _ + 60 ≤ q from Nat.le_trans (Nat.le_of_ble_eq_true rfl : _ ≤ 80) (by omega)) (kA_5 _ _) ?_
  have hm21 : kI (kA (kA (kF (kF (kF (kF (kF (kF m 7 (m.1 13)) 8 (m.1 14)) 9 (m.1 15)) 10 (m.1 16)) 11 (m.1 17)) 12 (m.1 18)) 4 (m.2.1 10)) 5 (m.2.1 11)) := kI_A hm19 5 (fun j a b => (by have h9 := hm19.2 11 j a b; have h8 : (0 : Int) ≤ m.2.1 11 j ∧ m.2.1 11 j ≤ 5 := h9; exact (show (0 : Int) ≤ m.2.1 11 j ∧ m.2.1 11 j ≤ 5 by omega)))
  have hf22 : fr [7, 8, 9, 10, 11, 12] [4, 5, 6, 7, 8] m (kA (kA (kF (kF (kF (kF (kF (kF m 7 (m.1 13)) 8 (m.1 14)) 9 (m.1 15)) 10 (m.1 16)) 11 (m.1 17)) 12 (m.1 18)) 4 (m.2.1 10)) 5 (m.2.1 11)) := fr_A hf20 5 _ rfl
  refine g_aload_n (n := 1) rfl rfl ?_
  refine g_getf (v := vR 12) rfl (kl_9 _) rfl ?_
  refine g_iconst rfl ?_
  refine g_aload_n (n := 0) rfl rfl ?_
  refine g_getf (v := vR 6) rfl (kl_3 _) rfl ?_
  refine g_iconst rfl ?_
  refine g_bipush (by decide) rfl ?_
  refine g_Acp (n := 10) (f := m.2.1 6) (g := m.2.1 12) (m' := (kA (kA (kA (kF (kF (kF (kF (kF (kF m 7 (m.1 13)) 8 (m.1 14)) 9 (m.1 15)) 10 (m.1 16)) 11 (m.1 17)) 12 (m.1 18)) 4 (m.2.1 10)) 5 (m.2.1 11)) 6 (m.2.1 12))) rfl rfl (kl_6 _) (kl_12 _) (by decide) (by omega) (show _ + 60 ≤ q from Nat.le_trans (Nat.le_of_ble_eq_true rfl : _ ≤ 80) (by omega)) (kA_6 _ _) ?_
  have hm23 : kI (kA (kA (kA (kF (kF (kF (kF (kF (kF m 7 (m.1 13)) 8 (m.1 14)) 9 (m.1 15)) 10 (m.1 16)) 11 (m.1 17)) 12 (m.1 18)) 4 (m.2.1 10)) 5 (m.2.1 11)) 6 (m.2.1 12)) := kI_A hm21 6 (fun j a b => (by have h9 := hm21.2 12 j a b; have h8 : (0 : Int) ≤ m.2.1 12 j ∧ m.2.1 12 j ≤ 5 := h9; exact (show (0 : Int) ≤ m.2.1 12 j ∧ m.2.1 12 j ≤ 5 by omega)))
  have hf24 : fr [7, 8, 9, 10, 11, 12] [4, 5, 6, 7, 8] m (kA (kA (kA (kF (kF (kF (kF (kF (kF m 7 (m.1 13)) 8 (m.1 14)) 9 (m.1 15)) 10 (m.1 16)) 11 (m.1 17)) 12 (m.1 18)) 4 (m.2.1 10)) 5 (m.2.1 11)) 6 (m.2.1 12)) := fr_A hf22 6 _ rfl
  refine g_aload_n (n := 1) rfl rfl ?_
  refine g_getf (v := vR 13) rfl (kl_9 _) rfl ?_
  refine g_iconst rfl ?_
  refine g_aload_n (n := 0) rfl rfl ?_
  refine g_getf (v := vR 7) rfl (kl_3 _) rfl ?_
  refine g_iconst rfl ?_
  refine g_bipush (by decide) rfl ?_
  refine g_Acp (n := 10) (f := m.2.1 7) (g := m.2.1 13) (m' := (kA (kA (kA (kA (kF (kF (kF (kF (kF (kF m 7 (m.1 13)) 8 (m.1 14)) 9 (m.1 15)) 10 (m.1 16)) 11 (m.1 17)) 12 (m.1 18)) 4 (m.2.1 10)) 5 (m.2.1 11)) 6 (m.2.1 12)) 7 (m.2.1 13))) rfl rfl (kl_7 _) (kl_13 _) (by decide) (by omega) (show _ + 60 ≤ q from Nat.le_trans (Nat.le_of_ble_eq_true rfl : _ ≤ 80) (by omega)) (kA_7 _ _) ?_
  have hm25 : kI (kA (kA (kA (kA (kF (kF (kF (kF (kF (kF m 7 (m.1 13)) 8 (m.1 14)) 9 (m.1 15)) 10 (m.1 16)) 11 (m.1 17)) 12 (m.1 18)) 4 (m.2.1 10)) 5 (m.2.1 11)) 6 (m.2.1 12)) 7 (m.2.1 13)) := kI_A hm23 7 (fun j a b => (by have h9 := hm23.2 13 j a b; have h8 : (0 : Int) ≤ m.2.1 13 j ∧ m.2.1 13 j ≤ 1 := h9; exact (show (0 : Int) ≤ m.2.1 13 j ∧ m.2.1 13 j ≤ 1 by omega)))
  have hf26 : fr [7, 8, 9, 10, 11, 12] [4, 5, 6, 7, 8] m (kA (kA (kA (kA (kF (kF (kF (kF (kF (kF m 7 (m.1 13)) 8 (m.1 14)) 9 (m.1 15)) 10 (m.1 16)) 11 (m.1 17)) 12 (m.1 18)) 4 (m.2.1 10)) 5 (m.2.1 11)) 6 (m.2.1 12)) 7 (m.2.1 13)) := fr_A hf24 7 _ rfl
  refine g_aload_n (n := 1) rfl rfl ?_
  refine g_getf (v := vR 14) rfl (kl_9 _) rfl ?_
  refine g_iconst rfl ?_
  refine g_aload_n (n := 0) rfl rfl ?_
  refine g_getf (v := vR 8) rfl (kl_3 _) rfl ?_
  refine g_iconst rfl ?_
  refine g_iconst rfl ?_
  refine g_Acp (n := 2) (f := m.2.1 8) (g := m.2.1 14) (m' := (kA (kA (kA (kA (kA (kF (kF (kF (kF (kF (kF m 7 (m.1 13)) 8 (m.1 14)) 9 (m.1 15)) 10 (m.1 16)) 11 (m.1 17)) 12 (m.1 18)) 4 (m.2.1 10)) 5 (m.2.1 11)) 6 (m.2.1 12)) 7 (m.2.1 13)) 8 (m.2.1 14))) rfl rfl (kl_8 _) (kl_14 _) (by decide) (by omega) (show _ + 60 ≤ q from Nat.le_trans (Nat.le_of_ble_eq_true rfl : _ ≤ 80) (by omega)) (kA_8 _ _) ?_
  have hm27 : kI (kA (kA (kA (kA (kA (kF (kF (kF (kF (kF (kF m 7 (m.1 13)) 8 (m.1 14)) 9 (m.1 15)) 10 (m.1 16)) 11 (m.1 17)) 12 (m.1 18)) 4 (m.2.1 10)) 5 (m.2.1 11)) 6 (m.2.1 12)) 7 (m.2.1 13)) 8 (m.2.1 14)) := kI_A hm25 8 (fun j a b => (by have h9 : (-1 : Int) ≤ m.2.1 14 j ∧ m.2.1 14 j ≤ 5 := hm.2 14 j a b; have hj : j = 0 ∨ j = 1 := (by have b2 : j < 2 := b; omega); rcases hj with rfl | rfl <;> exact ⟨by show (0 : Int) ≤ _; omega, by show _ ≤ (5 : Int); omega⟩))
  have hf28 : fr [7, 8, 9, 10, 11, 12] [4, 5, 6, 7, 8] m (kA (kA (kA (kA (kA (kF (kF (kF (kF (kF (kF m 7 (m.1 13)) 8 (m.1 14)) 9 (m.1 15)) 10 (m.1 16)) 11 (m.1 17)) 12 (m.1 18)) 4 (m.2.1 10)) 5 (m.2.1 11)) 6 (m.2.1 12)) 7 (m.2.1 13)) 8 (m.2.1 14)) := fr_A hf26 8 _ rfl
  refine g_vret rfl rfl ?_
  exact ⟨_, rfl, hm27, hf28, rfl, rfl, rfl, rfl, rfl, rfl, rfl, rfl, rfl, rfl, rfl⟩
theorem c_empty {V : cg_V} {d q : Nat} (hd : 0 ≤ d) (hq : 0 ≤ q) {m : kM} (hm : kI m) : cg_S V d q mX6_empty [vR 1] (kl m) (R_I (fun z m' => (kI m') ∧ (fr [3] [] m m') ∧ (z = m.1 3) ∧ (m'.1 3 = 0))) := by
  have hf0 : fr [3] [] m m := fr_rf m
  refine cg_of (List.mem_of_getElem? (show ae_MT[65]? = some mX6_empty from rfl)) (Nat.le_of_ble_eq_true rfl) ?_
  show cg_G V mX6_empty d q _ 0 [(0, vR 1)] [] (kl m) 0 0
  have h1 : 0 ≤ m.1 3 ∧ m.1 3 ≤ 200 := hm.1 3
  refine g_aload_n (n := 0) rfl rfl ?_
  refine g_getf (v := vI (m.1 3)) rfl (kl_1 _) rfl ?_
  refine g_istore_n (n := 1) (lo' := [(0, vR 1)]) rfl rfl ?_
  refine g_aload_n (n := 0) rfl rfl ?_
  refine g_iconst rfl ?_
  refine g_putF (m' := (kF m 3 0)) rfl (kl_1 _) rfl rfl rfl rfl (kF_3 _ _) ?_
  have hm2 : kI (kF m 3 0) := kI_F hm 3 (show (0 : Int) ≤ 0 by omega) (show 0 ≤ (200 : Int) by omega)
  have hf3 : fr [3] [] m (kF m 3 0) := fr_F hf0 3 _ rfl
  refine g_iload_n (n := 1) rfl rfl ?_
  refine g_iret rfl rfl ?_
  exact ⟨_, _, rfl, hm2, hf3, (by omega), rfl⟩
theorem c_add {V : cg_V} {d q : Nat} (hd : 0 ≤ d) (hq : 0 ≤ q) {m : kM} (hm : kI m) {x n : Int} (h_x : (-9223372036854775808) ≤ x ∧ x ≤ 9223372036854775807) (h_n : 1 ≤ n ∧ n ≤ 8) : cg_S V d q mX6_add [vR 1, vL x, vI n] (kl m) (R_I (fun z m' => (kI m') ∧ (fr [3] [2] m m') ∧ ((z = 1 ∧ m.1 3 + n ≤ 200 ∧ m'.1 3 = m.1 3 + n ∧ m'.2.1 2 = WR (m.2.1 2) (m.1 3) n x) ∨ (z = 0 ∧ 200 < m.1 3 + n ∧ m'.1 3 = m.1 3 ∧ m'.2.1 2 = m.2.1 2)))) := by
  have hf0 : fr [3] [2] m m := fr_rf m
  refine cg_of (List.mem_of_getElem? (show ae_MT[64]? = some mX6_add from rfl)) (Nat.le_of_ble_eq_true rfl) ?_
  show cg_G V mX6_add d q _ 0 [(0, vR 1), (1, vL x), (3, vI n)] [] (kl m) 0 0
  have h1 : 0 ≤ m.1 3 ∧ m.1 3 ≤ 200 := hm.1 3
  refine g_iload_n (n := 3) rfl rfl ?_
  refine g_sipush (by decide) rfl ?_
  refine g_aload_n (n := 0) rfl rfl ?_
  refine g_getf (v := vI (m.1 3)) rfl (kl_1 _) rfl ?_
  refine g_isub rfl ?_
  refine g_icmp_le (by omega) (by omega) (by omega) (by omega) rfl ?_ ?_
  · intro kk2
    refine g_iconst rfl ?_
    refine g_istore (n := 4) (lo' := [(0, vR 1), (1, vL x), (3, vI n)]) rfl rfl ?_
    have L17_1 : ∀ (n17_1 : Nat) (i_1 : Int) (mL1 : kM), (kI mL1) → (fr [3] [2] m mL1) → (0 ≤ i_1 ∧ i_1 ≤ 8) → (i_1 ≤ n) → (mL1.1 3 = m.1 3) → (mL1.2.1 2 = WR (m.2.1 2) (m.1 3) i_1 x) → ((8 - i_1).toNat) = n17_1 → cg_G V mX6_add d q (R_I (fun z m' => (kI m') ∧ (fr [3] [2] m m') ∧ ((z = 1 ∧ m.1 3 + n ≤ 200 ∧ m'.1 3 = m.1 3 + n ∧ m'.2.1 2 = WR (m.2.1 2) (m.1 3) n x) ∨ (z = 0 ∧ 200 < m.1 3 + n ∧ m'.1 3 = m.1 3 ∧ m'.2.1 2 = m.2.1 2)))) 17 [(4, vI i_1), (0, vR 1), (1, vL x), (3, vI n)] [] (kl mL1) 0 0 := by
      intro n17_1
      induction n17_1 using Nat.strongRecOn with
      | _ n17_1 ih17_1 =>
        intro i_1 mL1 hmL1 hfL1 i3 iN iL iW q4
        refine g_iload (n := 4) rfl rfl ?_
        refine g_iload_n (n := 3) rfl rfl ?_
        refine g_icmp_ge (by omega) (by omega) (by omega) (by omega) rfl ?_ ?_
        · intro kk5
          refine g_aload_n (n := 0) rfl rfl ?_
          refine g_dup rfl rfl ?_
          have h6 : 0 ≤ mL1.1 3 ∧ mL1.1 3 ≤ 200 := hmL1.1 3
          refine g_getf (v := vI (mL1.1 3)) rfl (kl_1 _) rfl ?_
          refine g_iload_n (n := 3) rfl rfl ?_
          refine g_iadd rfl ?_
          refine g_putF (m' := (kF mL1 3 (mL1.1 3 + n))) rfl (kl_1 _) rfl rfl rfl rfl (kF_3 _ _) ?_
          have hm7 : kI (kF mL1 3 (mL1.1 3 + n)) := kI_F hmL1 3 (show (0 : Int) ≤ (mL1.1 3 + n) by omega) (show (mL1.1 3 + n) ≤ (200 : Int) by omega)
          have hf8 : fr [3] [2] m (kF mL1 3 (mL1.1 3 + n)) := fr_F hfL1 3 _ rfl
          refine g_iconst rfl ?_
          refine g_zret rfl rfl (by omega) ?_
          exact ⟨_, _, rfl, hm7, hf8, Or.inl ⟨rfl, by omega, (show _ + n = m.1 3 + n by omega), (by show mL1.2.1 2 = _; rw [iW, show i_1 = n by omega])⟩⟩
        · intro kk9
          refine g_aload_n (n := 0) rfl rfl ?_
          refine g_getf (v := vR 2) rfl (kl_1 _) rfl ?_
          refine g_aload_n (n := 0) rfl rfl ?_
          have h10 : 0 ≤ mL1.1 3 ∧ mL1.1 3 ≤ 200 := hmL1.1 3
          refine g_getf (v := vI (mL1.1 3)) rfl (kl_1 _) rfl ?_
          refine g_iload (n := 4) rfl rfl ?_
          refine g_iadd rfl ?_
          refine g_lload_n (n := 1) rfl rfl ?_
          refine g_bipush (by decide) rfl ?_
          refine g_iload (n := 4) rfl rfl ?_
          refine g_imul rfl ?_
          refine g_lshr rfl ?_
          intro z11 h12 h13 h14
          have h15 : z11 = x / 2 ^ (Int.toNat ((8 * i_1))) := b_lshr h12 (by omega) (by omega) (by omega) (by omega)
          refine g_ldc2 (x := 255) (by decide) rfl ?_
          refine g_land rfl ?_
          intro z16 h17 h18 h19
          have h20 : z16 = z11 % 256 := b_lmodN (k := 8) h17 (by decide) (by decide) (by decide)
          refine g_l2i rfl ?_
          refine g_iAst (f := mL1.2.1 2) (m' := (kA mL1 2 (up (mL1.2.1 2) (mL1.1 3 + i_1) z16))) rfl (kl_2 _) (by decide) (by omega) (by omega) (kA_2 _ _) ?_
          have hm21 : kI (kA mL1 2 (up (mL1.2.1 2) (mL1.1 3 + i_1) z16)) := kI_U hmL1 2 rfl (show (0 : Int) ≤ z16 by omega) (show z16 ≤ (255 : Int) by omega)
          have hf22 : fr [3] [2] m (kA mL1 2 (up (mL1.2.1 2) (mL1.1 3 + i_1) z16)) := fr_A hfL1 2 _ rfl
          have hWn : (kA mL1 2 (up (mL1.2.1 2) (mL1.1 3 + i_1) z16)).2.1 2 = WR (m.2.1 2) (m.1 3) (i_1 + 1) x := by
            show up (mL1.2.1 2) (mL1.1 3 + i_1) z16 = _
            rw [iW, show (mL1.1 3 + i_1) = m.1 3 + i_1 by omega]
            refine WR_up (by omega) ?_
            show z16 = x / 2 ^ (Int.toNat (8 * i_1)) % 256
            omega
          refine g_iinc (n := 4) (lo' := [(0, vR 1), (1, vL x), (3, vI n)]) rfl rfl rfl ?_
          refine g_goto rfl ?_
          exact ih17_1 _ (by omega) (i_1 + 1) (kA mL1 2 (up (mL1.2.1 2) (mL1.1 3 + i_1) z16)) hm21 hf22 (by omega) (by omega) iL hWn rfl
    exact L17_1 _ 0 m hm hf0 (by omega) (by omega) rfl (WR_0 _ _ _).symm rfl
  · intro kk23
    refine g_iconst rfl ?_
    refine g_zret rfl rfl (by omega) ?_
    exact ⟨_, _, rfl, hm, hf0, Or.inr ⟨rfl, by omega, rfl, rfl⟩⟩
theorem c_write {V : cg_V} {d q : Nat} (hd : 1 ≤ d) (hq : 24 ≤ q) {m : kM} (hm : kI m) {x n : Int} (h_x : (-9223372036854775808) ≤ x ∧ x ≤ 9223372036854775807) (h_n : (-2147483648) ≤ n ∧ n ≤ 2147483647) : cg_S V d q mX9_write [vR 0, vL x, vI n] (kl m) (R_I (fun z m' => (kI m') ∧ (fr [3] [2] m m') ∧ ((1 ≤ n ∧ n ≤ 8 ∧ m.1 3 + n ≤ 200 ∧ m'.1 3 = m.1 3 + n ∧ m'.2.1 2 = WR (m.2.1 2) (m.1 3) n x ∧ z = m.1 3 + n) ∨ (((n < 1 ∨ 8 < n) ∧ z = -3 ∨ (1 ≤ n ∧ n ≤ 8 ∧ 200 < m.1 3 + n) ∧ z = -5) ∧ m'.1 3 = m.1 3 ∧ m'.2.1 2 = m.2.1 2)))) := by
  have hf0 : fr [3] [2] m m := fr_rf m
  refine cg_of (List.mem_of_getElem? (show ae_MT[87]? = some mX9_write from rfl)) (Nat.le_of_ble_eq_true rfl) ?_
  show cg_G V mX9_write d q _ 0 [(0, vR 0), (1, vL x), (3, vI n)] [] (kl m) 0 0
  have h1 : 0 ≤ m.1 3 ∧ m.1 3 ≤ 200 := hm.1 3
  refine g_iload_n (n := 3) rfl rfl ?_
  refine g_iconst rfl ?_
  refine g_icmp_lt (by omega) (by omega) (by decide) (by decide) rfl ?_ ?_
  · intro kk2
    refine g_bipush (by decide) rfl ?_
    refine g_iret rfl rfl ?_
    exact ⟨_, _, rfl, hm, hf0, Or.inr ⟨Or.inl ⟨by omega, rfl⟩, rfl, rfl⟩⟩
  · intro kk3
    refine g_iload_n (n := 3) rfl rfl ?_
    refine g_bipush (by decide) rfl ?_
    refine g_icmp_le (by omega) (by omega) (by decide) (by decide) rfl ?_ ?_
    · intro kk4
      refine g_aload_n (n := 0) rfl rfl ?_
      refine g_getf (v := vR 1) rfl (kl_0 _) rfl ?_
      refine g_lload_n (n := 1) rfl rfl ?_
      refine g_iload_n (n := 3) rfl rfl ?_
      refine c_vI (i := 1) (ps := [vI n, vL x]) (r := []) (as := [vR 1, vL x, vI n]) (cs' := 0) (sl' := 0) rfl rfl rfl rfl rfl rfl (kl_1 _) (c_add (d := d - 1) (q := q - (5 + 19)) (by omega) (by omega) hm (x := x) (n := n) (show (-9223372036854775808) ≤ x ∧ x ≤ 9223372036854775807 by omega) (show 1 ≤ n ∧ n ≤ 8 by omega)) (by omega) (show 5 + 19 ≤ q by omega) (Nat.le_of_ble_eq_true rfl) (Nat.le_of_ble_eq_true rfl) rfl rfl rfl ?_
      rintro z5 m6 ⟨hm8, hc9, p10⟩
      have hf11 : fr [3] [2] m m6 := fr_tr hf0 (fr_le hc9 rfl rfl)
      refine g_if_eq (by omega) (by omega) rfl ?_ ?_
      · intro kk12
        refine g_bipush (by decide) rfl ?_
        refine g_iret rfl rfl ?_
        have h0 := p10.resolve_left (fun h => by omega)
        exact ⟨_, _, rfl, hm8, hf11, Or.inr ⟨Or.inr ⟨by omega, rfl⟩, h0.2.2.1, h0.2.2.2⟩⟩
      · intro kk13
        refine g_aload_n (n := 0) rfl rfl ?_
        refine g_getf (v := vR 1) rfl (kl_0 _) rfl ?_
        have h14 : 0 ≤ m6.1 3 ∧ m6.1 3 ≤ 200 := hm8.1 3
        refine g_getf (v := vI (m6.1 3)) rfl (kl_1 _) rfl ?_
        refine g_goto rfl ?_
        refine g_iret rfl rfl ?_
        have h0 := p10.resolve_right (fun h => by omega)
        exact ⟨_, _, rfl, hm8, hf11, Or.inl ⟨by omega, by omega, h0.2.1, h0.2.2.1, h0.2.2.2, h0.2.2.1⟩⟩
    · intro kk15
      refine g_bipush (by decide) rfl ?_
      refine g_iret rfl rfl ?_
      exact ⟨_, _, rfl, hm, hf0, Or.inr ⟨Or.inl ⟨by omega, rfl⟩, rfl, rfl⟩⟩
theorem c_erase {V : cg_V} {d q : Nat} (hd : 1 ≤ d) (hq : 21 ≤ q) {m : kM} (hm : kI m) : cg_S V d q mX9_erase [vR 0] (kl m) (R_I (fun z m' => (kI m') ∧ (fr [3] [] m m') ∧ (z = m.1 3) ∧ (m'.1 3 = 0))) := by
  have hf0 : fr [3] [] m m := fr_rf m
  refine cg_of (List.mem_of_getElem? (show ae_MT[88]? = some mX9_erase from rfl)) (Nat.le_of_ble_eq_true rfl) ?_
  show cg_G V mX9_erase d q _ 0 [(0, vR 0)] [] (kl m) 0 0
  have h1 : 0 ≤ m.1 3 ∧ m.1 3 ≤ 200 := hm.1 3
  refine g_aload_n (n := 0) rfl rfl ?_
  refine g_getf (v := vR 1) rfl (kl_0 _) rfl ?_
  refine c_vI (i := 1) (ps := []) (r := []) (as := [vR 1]) (cs' := 0) (sl' := 0) rfl rfl rfl rfl rfl rfl (kl_1 _) (c_empty (d := d - 1) (q := q - (2 + 19)) (by omega) (by omega) hm  ) (by omega) (show 2 + 19 ≤ q by omega) (Nat.le_of_ble_eq_true rfl) (Nat.le_of_ble_eq_true rfl) rfl rfl rfl ?_
  rintro z2 m3 ⟨hm5, hc6, p7, p8⟩
  have hf9 : fr [3] [] m m3 := fr_tr hf0 (fr_le hc6 rfl rfl)
  refine g_iret rfl rfl ?_
  exact ⟨_, _, rfl, hm5, hf9, p7, p8⟩
theorem c_fault {V : cg_V} {d q : Nat} (hd : 7 ≤ d) (hq : 150 ≤ q) {m : kM} (hm : kI m) : cg_S V d q mX9_fault [vR 0] (kl m) (R_I (fun z m' => (kI m') ∧ (fr [4, 5, 6, 13, 14, 15, 16, 17, 18] [10, 11, 12, 13, 14] m m') ∧ (z = (RD (m.2.1 2) (m.1 3) 10 0 (m.1 7) (m.1 8) (m.1 10)).1))) := by
  have hf0 : fr [4, 5, 6, 13, 14, 15, 16, 17, 18] [10, 11, 12, 13, 14] m m := fr_rf m
  refine cg_of (List.mem_of_getElem? (show ae_MT[89]? = some mX9_fault from rfl)) (Nat.le_of_ble_eq_true rfl) ?_
  show cg_G V mX9_fault d q _ 0 [(0, vR 0)] [] (kl m) 0 0
  have h1 : 0 ≤ m.1 3 ∧ m.1 3 ≤ 200 := hm.1 3
  have h2 : 2 ≤ m.1 7 ∧ m.1 7 ≤ 6 := hm.1 7
  have h3 : 0 ≤ m.1 8 ∧ m.1 8 ≤ 10 := hm.1 8
  have h4 : 0 ≤ m.1 10 ∧ m.1 10 ≤ 63 := hm.1 10
  refine g_aload_n (n := 0) rfl rfl ?_
  refine g_getf (v := vR 9) rfl (kl_0 _) rfl ?_
  refine g_aload_n (n := 0) rfl rfl ?_
  refine g_getf (v := vR 3) rfl (kl_0 _) rfl ?_
  have h5 : 0 ≤ m.1 9 ∧ m.1 9 ≤ 5 := hm.1 9
  have h6 : 0 ≤ m.1 11 ∧ m.1 11 ≤ 3 := hm.1 11
  have h7 : 0 ≤ m.1 12 ∧ m.1 12 ≤ 5 := hm.1 12
  refine c_vV (i := 9) (ps := [vR 3]) (r := []) (as := [vR 9, vR 3]) (cs' := 0) (sl' := 0) rfl rfl rfl rfl rfl rfl (kl_9 _) (c_copy93 (d := d - 1) (q := q - (2 + 19)) (by omega) (by omega) hm  ) (by omega) (show 2 + 19 ≤ q by omega) (Nat.le_of_ble_eq_true rfl) (Nat.le_of_ble_eq_true rfl) rfl rfl rfl ?_
  rintro m9 ⟨hm11, hc12, p13, p14, p15, p16, p17, p18, p19, p20, p21, p22, p23, p24⟩
  have hf25 : fr [4, 5, 6, 13, 14, 15, 16, 17, 18] [10, 11, 12, 13, 14] m m9 := fr_tr hf0 (fr_le hc12 rfl rfl)
  have h26 : m9.1 3 = m.1 3 := hc12.1 3 rfl
  have h27 : 0 ≤ m9.1 3 ∧ m9.1 3 ≤ 200 := hm11.1 3
  have h28 : m9.1 7 = m.1 7 := hc12.1 7 rfl
  have h29 : 2 ≤ m9.1 7 ∧ m9.1 7 ≤ 6 := hm11.1 7
  have h30 : m9.1 8 = m.1 8 := hc12.1 8 rfl
  have h31 : 0 ≤ m9.1 8 ∧ m9.1 8 ≤ 10 := hm11.1 8
  have h32 : m9.1 9 = m.1 9 := hc12.1 9 rfl
  have h33 : 0 ≤ m9.1 9 ∧ m9.1 9 ≤ 5 := hm11.1 9
  have h34 : m9.1 10 = m.1 10 := hc12.1 10 rfl
  have h35 : 0 ≤ m9.1 10 ∧ m9.1 10 ≤ 63 := hm11.1 10
  have h36 : m9.1 11 = m.1 11 := hc12.1 11 rfl
  have h37 : 0 ≤ m9.1 11 ∧ m9.1 11 ≤ 3 := hm11.1 11
  have h38 : m9.1 12 = m.1 12 := hc12.1 12 rfl
  have h39 : 0 ≤ m9.1 12 ∧ m9.1 12 ≤ 5 := hm11.1 12
  refine g_aload_n (n := 0) rfl rfl ?_
  refine g_getf (v := vR 1) rfl (kl_0 _) rfl ?_
  refine g_aload_n (n := 0) rfl rfl ?_
  refine g_getf (v := vR 9) rfl (kl_0 _) rfl ?_
  have h40 : 2 ≤ m9.1 13 ∧ m9.1 13 ≤ 6 := hm11.1 13
  have h41 : 0 ≤ m9.1 14 ∧ m9.1 14 ≤ 10 := hm11.1 14
  have h42 : 0 ≤ m9.1 16 ∧ m9.1 16 ≤ 63 := hm11.1 16
  refine c_vI (i := 1) (ps := [vR 9]) (r := []) (as := [vR 1, vR 9]) (cs' := 0) (sl' := 0) rfl rfl rfl rfl rfl rfl (kl_1 _) (c_readInto (d := d - 1) (q := q - (3 + 19)) (by omega) (by omega) hm11  p24) (by omega) (show 3 + 19 ≤ q by omega) (Nat.le_of_ble_eq_true rfl) (Nat.le_of_ble_eq_true rfl) rfl rfl rfl ?_
  rintro z43 m44 ⟨hm46, hc47, p48, p49, p50, p51⟩
  have hf52 : fr [4, 5, 6, 13, 14, 15, 16, 17, 18] [10, 11, 12, 13, 14] m m44 := fr_tr hf25 (fr_le hc47 rfl rfl)
  have h53 : m44.1 3 = m9.1 3 := hc47.1 3 rfl
  have h54 : 0 ≤ m44.1 3 ∧ m44.1 3 ≤ 200 := hm46.1 3
  have h55 : m44.1 7 = m9.1 7 := hc47.1 7 rfl
  have h56 : 2 ≤ m44.1 7 ∧ m44.1 7 ≤ 6 := hm46.1 7
  have h57 : m44.1 8 = m9.1 8 := hc47.1 8 rfl
  have h58 : 0 ≤ m44.1 8 ∧ m44.1 8 ≤ 10 := hm46.1 8
  have h59 : m44.1 9 = m9.1 9 := hc47.1 9 rfl
  have h60 : 0 ≤ m44.1 9 ∧ m44.1 9 ≤ 5 := hm46.1 9
  have h61 : m44.1 10 = m9.1 10 := hc47.1 10 rfl
  have h62 : 0 ≤ m44.1 10 ∧ m44.1 10 ≤ 63 := hm46.1 10
  have h63 : m44.1 11 = m9.1 11 := hc47.1 11 rfl
  have h64 : 0 ≤ m44.1 11 ∧ m44.1 11 ≤ 3 := hm46.1 11
  have h65 : m44.1 12 = m9.1 12 := hc47.1 12 rfl
  have h66 : 0 ≤ m44.1 12 ∧ m44.1 12 ≤ 5 := hm46.1 12
  have eR : RD (m9.2.1 2) (m9.1 3) 10 0 (m9.1 13) (m9.1 14) (m9.1 16) = (RD (m.2.1 2) (m.1 3) 10 0 (m.1 7) (m.1 8) (m.1 10)) := by rw [hc12.2.1 2 rfl, hc12.1 3 rfl, p13, p14, p16]
  have hz := p48
  have ho := p49
  rw [eR] at hz ho
  refine g_iret rfl rfl ?_
  exact ⟨_, _, rfl, hm46, hf52, hz⟩
theorem c_gaol {V : cg_V} {d q : Nat} (hd : 7 ≤ d) (hq : 150 ≤ q) {m : kM} (hm : kI m) (h_kW : kW m) (h_kP : kP m) : cg_S V d q mX9_gaol [vR 0] (kl m) (R_I (fun z m' => (kI m') ∧ (fq [0, 1, 2, 3, 4, 5, 6, 7, 8, 9, 10, 11, 12, 13, 14, 15, 16, 17, 18, 19, 22] [4, 5, 6, 7, 8, 10, 11, 12, 13, 14, 29, 30, 59] m m') ∧ (((RD (m.2.1 2) (m.1 3) 10 0 (m.1 7) (m.1 8) (m.1 10)).1 = -1 ∧ z = (RD (m.2.1 2) (m.1 3) 10 0 (m.1 7) (m.1 8) (m.1 10)).2.2.2.2 ∧ m'.1 7 = (RD (m.2.1 2) (m.1 3) 10 0 (m.1 7) (m.1 8) (m.1 10)).2.1 ∧ m'.1 8 = (RD (m.2.1 2) (m.1 3) 10 0 (m.1 7) (m.1 8) (m.1 10)).2.2.1 ∧ m'.1 10 = (RD (m.2.1 2) (m.1 3) 10 0 (m.1 7) (m.1 8) (m.1 10)).2.2.2.1 ∧ m'.1 3 = 0 ∧ m'.1 22 = 0 ∧ m'.1 0 = 0) ∨ ((RD (m.2.1 2) (m.1 3) 10 0 (m.1 7) (m.1 8) (m.1 10)).1 ≠ -1 ∧ z = -4 ∧ m'.1 7 = m.1 7 ∧ m'.1 8 = m.1 8 ∧ m'.1 10 = m.1 10 ∧ m'.1 3 = m.1 3 ∧ m'.1 22 = m.1 22 ∧ m'.1 0 = m.1 0)) ∧ (kW m') ∧ (kP m'))) := by
  have hf0 : fq [0, 1, 2, 3, 4, 5, 6, 7, 8, 9, 10, 11, 12, 13, 14, 15, 16, 17, 18, 19, 22] [4, 5, 6, 7, 8, 10, 11, 12, 13, 14, 29, 30, 59] m m := fq_rf m
  refine cg_of (List.mem_of_getElem? (show ae_MT[90]? = some mX9_gaol from rfl)) (Nat.le_of_ble_eq_true rfl) ?_
  show cg_G V mX9_gaol d q _ 0 [(0, vR 0)] [] (kl m) 0 0
  have h1 : 0 ≤ m.1 0 ∧ m.1 0 ≤ 20 := hm.1 0
  have h2 : 0 ≤ m.1 3 ∧ m.1 3 ≤ 200 := hm.1 3
  have h3 : 2 ≤ m.1 7 ∧ m.1 7 ≤ 6 := hm.1 7
  have h4 : 0 ≤ m.1 8 ∧ m.1 8 ≤ 10 := hm.1 8
  have h5 : 0 ≤ m.1 10 ∧ m.1 10 ≤ 63 := hm.1 10
  have h6 : 0 ≤ m.1 22 ∧ m.1 22 ≤ 8 := hm.1 22
  refine g_aload_n (n := 0) rfl rfl ?_
  refine g_getf (v := vR 9) rfl (kl_0 _) rfl ?_
  refine g_aload_n (n := 0) rfl rfl ?_
  refine g_getf (v := vR 3) rfl (kl_0 _) rfl ?_
  have h7 : 0 ≤ m.1 9 ∧ m.1 9 ≤ 5 := hm.1 9
  have h8 : 0 ≤ m.1 11 ∧ m.1 11 ≤ 3 := hm.1 11
  have h9 : 0 ≤ m.1 12 ∧ m.1 12 ≤ 5 := hm.1 12
  refine c_vV (i := 9) (ps := [vR 3]) (r := []) (as := [vR 9, vR 3]) (cs' := 0) (sl' := 0) rfl rfl rfl rfl rfl rfl (kl_9 _) (c_copy93 (d := d - 1) (q := q - (2 + 19)) (by omega) (by omega) hm  ) (by omega) (show 2 + 19 ≤ q by omega) (Nat.le_of_ble_eq_true rfl) (Nat.le_of_ble_eq_true rfl) rfl rfl rfl ?_
  rintro m11 ⟨hm13, hc14, p15, p16, p17, p18, p19, p20, p21, p22, p23, p24, p25, p26⟩
  have hf27 : fq [0, 1, 2, 3, 4, 5, 6, 7, 8, 9, 10, 11, 12, 13, 14, 15, 16, 17, 18, 19, 22] [4, 5, 6, 7, 8, 10, 11, 12, 13, 14, 29, 30, 59] m m11 := fq_tr hf0 (fq_le (fq_of hc14) rfl rfl)
  have h28 : m11.1 0 = m.1 0 := hc14.1 0 rfl
  have h29 : 0 ≤ m11.1 0 ∧ m11.1 0 ≤ 20 := hm13.1 0
  have h30 : m11.1 3 = m.1 3 := hc14.1 3 rfl
  have h31 : 0 ≤ m11.1 3 ∧ m11.1 3 ≤ 200 := hm13.1 3
  have h32 : m11.1 7 = m.1 7 := hc14.1 7 rfl
  have h33 : 2 ≤ m11.1 7 ∧ m11.1 7 ≤ 6 := hm13.1 7
  have h34 : m11.1 8 = m.1 8 := hc14.1 8 rfl
  have h35 : 0 ≤ m11.1 8 ∧ m11.1 8 ≤ 10 := hm13.1 8
  have h36 : m11.1 9 = m.1 9 := hc14.1 9 rfl
  have h37 : 0 ≤ m11.1 9 ∧ m11.1 9 ≤ 5 := hm13.1 9
  have h38 : m11.1 10 = m.1 10 := hc14.1 10 rfl
  have h39 : 0 ≤ m11.1 10 ∧ m11.1 10 ≤ 63 := hm13.1 10
  have h40 : m11.1 11 = m.1 11 := hc14.1 11 rfl
  have h41 : 0 ≤ m11.1 11 ∧ m11.1 11 ≤ 3 := hm13.1 11
  have h42 : m11.1 12 = m.1 12 := hc14.1 12 rfl
  have h43 : 0 ≤ m11.1 12 ∧ m11.1 12 ≤ 5 := hm13.1 12
  have h44 : m11.1 22 = m.1 22 := hc14.1 22 rfl
  have h45 : 0 ≤ m11.1 22 ∧ m11.1 22 ≤ 8 := hm13.1 22
  have t46 : kW m11 := kW_fr hc14 rfl rfl h_kW
  have t47 : kP m11 := kP_fr hc14 rfl rfl h_kP
  refine g_aload_n (n := 0) rfl rfl ?_
  refine g_getf (v := vR 1) rfl (kl_0 _) rfl ?_
  refine g_aload_n (n := 0) rfl rfl ?_
  refine g_getf (v := vR 9) rfl (kl_0 _) rfl ?_
  have h48 : 2 ≤ m11.1 13 ∧ m11.1 13 ≤ 6 := hm13.1 13
  have h49 : 0 ≤ m11.1 14 ∧ m11.1 14 ≤ 10 := hm13.1 14
  have h50 : 0 ≤ m11.1 16 ∧ m11.1 16 ≤ 63 := hm13.1 16
  refine c_vI (i := 1) (ps := [vR 9]) (r := []) (as := [vR 1, vR 9]) (cs' := 0) (sl' := 0) rfl rfl rfl rfl rfl rfl (kl_1 _) (c_readInto (d := d - 1) (q := q - (3 + 19)) (by omega) (by omega) hm13  p26) (by omega) (show 3 + 19 ≤ q by omega) (Nat.le_of_ble_eq_true rfl) (Nat.le_of_ble_eq_true rfl) rfl rfl rfl ?_
  rintro z51 m52 ⟨hm54, hc55, p56, p57, p58, p59⟩
  have hf60 : fq [0, 1, 2, 3, 4, 5, 6, 7, 8, 9, 10, 11, 12, 13, 14, 15, 16, 17, 18, 19, 22] [4, 5, 6, 7, 8, 10, 11, 12, 13, 14, 29, 30, 59] m m52 := fq_tr hf27 (fq_le (fq_of hc55) rfl rfl)
  have h61 : m52.1 0 = m11.1 0 := hc55.1 0 rfl
  have h62 : 0 ≤ m52.1 0 ∧ m52.1 0 ≤ 20 := hm54.1 0
  have h63 : m52.1 3 = m11.1 3 := hc55.1 3 rfl
  have h64 : 0 ≤ m52.1 3 ∧ m52.1 3 ≤ 200 := hm54.1 3
  have h65 : m52.1 7 = m11.1 7 := hc55.1 7 rfl
  have h66 : 2 ≤ m52.1 7 ∧ m52.1 7 ≤ 6 := hm54.1 7
  have h67 : m52.1 8 = m11.1 8 := hc55.1 8 rfl
  have h68 : 0 ≤ m52.1 8 ∧ m52.1 8 ≤ 10 := hm54.1 8
  have h69 : m52.1 9 = m11.1 9 := hc55.1 9 rfl
  have h70 : 0 ≤ m52.1 9 ∧ m52.1 9 ≤ 5 := hm54.1 9
  have h71 : m52.1 10 = m11.1 10 := hc55.1 10 rfl
  have h72 : 0 ≤ m52.1 10 ∧ m52.1 10 ≤ 63 := hm54.1 10
  have h73 : m52.1 11 = m11.1 11 := hc55.1 11 rfl
  have h74 : 0 ≤ m52.1 11 ∧ m52.1 11 ≤ 3 := hm54.1 11
  have h75 : m52.1 12 = m11.1 12 := hc55.1 12 rfl
  have h76 : 0 ≤ m52.1 12 ∧ m52.1 12 ≤ 5 := hm54.1 12
  have h77 : m52.1 22 = m11.1 22 := hc55.1 22 rfl
  have h78 : 0 ≤ m52.1 22 ∧ m52.1 22 ≤ 8 := hm54.1 22
  have t79 : kW m52 := kW_fr hc55 rfl rfl t46
  have t80 : kP m52 := kP_fr hc55 rfl rfl t47
  have eR : RD (m11.2.1 2) (m11.1 3) 10 0 (m11.1 13) (m11.1 14) (m11.1 16) = (RD (m.2.1 2) (m.1 3) 10 0 (m.1 7) (m.1 8) (m.1 10)) := by rw [hc14.2.1 2 rfl, hc14.1 3 rfl, p15, p16, p18]
  have hz := p56
  have ho := p57
  rw [eR] at hz ho
  refine g_iconst rfl ?_
  refine g_icmp_eq (by omega) (by omega) (by decide) (by decide) rfl ?_ ?_
  · intro kk81
    have kGx := (ho (by omega)).2.2.2.2
    refine g_aload_n (n := 0) rfl rfl ?_
    refine g_getf (v := vR 3) rfl (kl_0 _) rfl ?_
    refine g_aload_n (n := 0) rfl rfl ?_
    refine g_getf (v := vR 9) rfl (kl_0 _) rfl ?_
    have h82 : 2 ≤ m52.1 13 ∧ m52.1 13 ≤ 6 := hm54.1 13
    have h83 : 0 ≤ m52.1 14 ∧ m52.1 14 ≤ 10 := hm54.1 14
    have h84 : (-1) ≤ m52.1 15 ∧ m52.1 15 ≤ 5 := hm54.1 15
    have h85 : 0 ≤ m52.1 16 ∧ m52.1 16 ≤ 63 := hm54.1 16
    have h86 : (-1) ≤ m52.1 17 ∧ m52.1 17 ≤ 3 := hm54.1 17
    have h87 : (-1) ≤ m52.1 18 ∧ m52.1 18 ≤ 5 := hm54.1 18
    refine c_vV (i := 3) (ps := [vR 9]) (r := []) (as := [vR 3, vR 9]) (cs' := 0) (sl' := 0) rfl rfl rfl rfl rfl rfl (kl_3 _) (c_copy39 (d := d - 1) (q := q - (2 + 19)) (by omega) (by omega) hm54  kGx) (by omega) (show 2 + 19 ≤ q by omega) (Nat.le_of_ble_eq_true rfl) (Nat.le_of_ble_eq_true rfl) rfl rfl rfl ?_
    rintro m89 ⟨hm91, hc92, p93, p94, p95, p96, p97, p98, p99, p100, p101, p102, p103⟩
    have hf104 : fq [0, 1, 2, 3, 4, 5, 6, 7, 8, 9, 10, 11, 12, 13, 14, 15, 16, 17, 18, 19, 22] [4, 5, 6, 7, 8, 10, 11, 12, 13, 14, 29, 30, 59] m m89 := fq_tr hf60 (fq_le (fq_of hc92) rfl rfl)
    have h105 : m89.1 0 = m52.1 0 := hc92.1 0 rfl
    have h106 : 0 ≤ m89.1 0 ∧ m89.1 0 ≤ 20 := hm91.1 0
    have h107 : m89.1 3 = m52.1 3 := hc92.1 3 rfl
    have h108 : 0 ≤ m89.1 3 ∧ m89.1 3 ≤ 200 := hm91.1 3
    have h109 : m89.1 13 = m52.1 13 := hc92.1 13 rfl
    have h110 : 2 ≤ m89.1 13 ∧ m89.1 13 ≤ 6 := hm91.1 13
    have h111 : m89.1 14 = m52.1 14 := hc92.1 14 rfl
    have h112 : 0 ≤ m89.1 14 ∧ m89.1 14 ≤ 10 := hm91.1 14
    have h113 : m89.1 15 = m52.1 15 := hc92.1 15 rfl
    have h114 : (-1) ≤ m89.1 15 ∧ m89.1 15 ≤ 5 := hm91.1 15
    have h115 : m89.1 16 = m52.1 16 := hc92.1 16 rfl
    have h116 : 0 ≤ m89.1 16 ∧ m89.1 16 ≤ 63 := hm91.1 16
    have h117 : m89.1 17 = m52.1 17 := hc92.1 17 rfl
    have h118 : (-1) ≤ m89.1 17 ∧ m89.1 17 ≤ 3 := hm91.1 17
    have h119 : m89.1 18 = m52.1 18 := hc92.1 18 rfl
    have h120 : (-1) ≤ m89.1 18 ∧ m89.1 18 ≤ 5 := hm91.1 18
    have h121 : m89.1 22 = m52.1 22 := hc92.1 22 rfl
    have h122 : 0 ≤ m89.1 22 ∧ m89.1 22 ≤ 8 := hm91.1 22
    have t123 : kW m89 := kW_fr hc92 rfl rfl t79
    have t124 : kP m89 := kP_fr hc92 rfl rfl t80
    have t125 : kG m89 := kG_fr hc92 rfl rfl kGx
    refine g_aload_n (n := 0) rfl rfl ?_
    refine g_getf (v := vR 1) rfl (kl_0 _) rfl ?_
    refine c_vI (i := 1) (ps := []) (r := []) (as := [vR 1]) (cs' := 0) (sl' := 0) rfl rfl rfl rfl rfl rfl (kl_1 _) (c_empty (d := d - 1) (q := q - (2 + 19)) (by omega) (by omega) hm91  ) (by omega) (show 2 + 19 ≤ q by omega) (Nat.le_of_ble_eq_true rfl) (Nat.le_of_ble_eq_true rfl) rfl rfl rfl ?_
    rintro z126 m127 ⟨hm129, hc130, p131, p132⟩
    have hf133 : fq [0, 1, 2, 3, 4, 5, 6, 7, 8, 9, 10, 11, 12, 13, 14, 15, 16, 17, 18, 19, 22] [4, 5, 6, 7, 8, 10, 11, 12, 13, 14, 29, 30, 59] m m127 := fq_tr hf104 (fq_le (fq_of hc130) rfl rfl)
    have h134 : m127.1 0 = m89.1 0 := hc130.1 0 rfl
    have h135 : 0 ≤ m127.1 0 ∧ m127.1 0 ≤ 20 := hm129.1 0
    have h136 : m127.1 13 = m89.1 13 := hc130.1 13 rfl
    have h137 : 2 ≤ m127.1 13 ∧ m127.1 13 ≤ 6 := hm129.1 13
    have h138 : m127.1 14 = m89.1 14 := hc130.1 14 rfl
    have h139 : 0 ≤ m127.1 14 ∧ m127.1 14 ≤ 10 := hm129.1 14
    have h140 : m127.1 15 = m89.1 15 := hc130.1 15 rfl
    have h141 : (-1) ≤ m127.1 15 ∧ m127.1 15 ≤ 5 := hm129.1 15
    have h142 : m127.1 16 = m89.1 16 := hc130.1 16 rfl
    have h143 : 0 ≤ m127.1 16 ∧ m127.1 16 ≤ 63 := hm129.1 16
    have h144 : m127.1 17 = m89.1 17 := hc130.1 17 rfl
    have h145 : (-1) ≤ m127.1 17 ∧ m127.1 17 ≤ 3 := hm129.1 17
    have h146 : m127.1 18 = m89.1 18 := hc130.1 18 rfl
    have h147 : (-1) ≤ m127.1 18 ∧ m127.1 18 ≤ 5 := hm129.1 18
    have h148 : m127.1 22 = m89.1 22 := hc130.1 22 rfl
    have h149 : 0 ≤ m127.1 22 ∧ m127.1 22 ≤ 8 := hm129.1 22
    have t150 : kW m127 := kW_fr hc130 rfl rfl t123
    have t151 : kP m127 := kP_fr hc130 rfl rfl t124
    have t152 : kG m127 := kG_fr hc130 rfl rfl t125
    refine g_pop rfl rfl ?_
    refine g_aload_n (n := 0) rfl rfl ?_
    refine c_vV (i := 0) (ps := []) (r := []) (as := [vR 0]) (cs' := 0) (sl' := 0) rfl rfl rfl rfl rfl rfl (kl_0 _) (c_beginAsTold (d := d - 1) (q := q - (2 + 19)) (by omega) (by omega) hm129  t150 t151) (by omega) (show 2 + 19 ≤ q by omega) (Nat.le_of_ble_eq_true rfl) (Nat.le_of_ble_eq_true rfl) rfl rfl rfl ?_
    rintro m154 ⟨hm156, hc157, p158, p159, p160, p161⟩
    have hf162 : fq [0, 1, 2, 3, 4, 5, 6, 7, 8, 9, 10, 11, 12, 13, 14, 15, 16, 17, 18, 19, 22] [4, 5, 6, 7, 8, 10, 11, 12, 13, 14, 29, 30, 59] m m154 := fq_tr hf133 (fq_le hc157 rfl rfl)
    have h163 : m154.1 13 = m127.1 13 := hc157.1 13 rfl
    have h164 : 2 ≤ m154.1 13 ∧ m154.1 13 ≤ 6 := hm156.1 13
    have h165 : m154.1 14 = m127.1 14 := hc157.1 14 rfl
    have h166 : 0 ≤ m154.1 14 ∧ m154.1 14 ≤ 10 := hm156.1 14
    have h167 : m154.1 15 = m127.1 15 := hc157.1 15 rfl
    have h168 : (-1) ≤ m154.1 15 ∧ m154.1 15 ≤ 5 := hm156.1 15
    have h169 : m154.1 16 = m127.1 16 := hc157.1 16 rfl
    have h170 : 0 ≤ m154.1 16 ∧ m154.1 16 ≤ 63 := hm156.1 16
    have h171 : m154.1 17 = m127.1 17 := hc157.1 17 rfl
    have h172 : (-1) ≤ m154.1 17 ∧ m154.1 17 ≤ 3 := hm156.1 17
    have h173 : m154.1 18 = m127.1 18 := hc157.1 18 rfl
    have h174 : (-1) ≤ m154.1 18 ∧ m154.1 18 ≤ 5 := hm156.1 18
    refine g_aload_n (n := 0) rfl rfl ?_
    refine g_getf (v := vR 1) rfl (kl_0 _) rfl ?_
    have h175 : (-2147483648) ≤ m154.1 4 ∧ m154.1 4 ≤ 2147483647 := hm156.1 4
    have h176 : m154.1 4 = m127.1 4 := hc157.1 4 rfl
    refine g_getf (v := vI (m154.1 4)) rfl (kl_1 _) rfl ?_
    refine g_iret rfl rfl ?_
    have o := ho (by omega)
    have q4 : m154.1 4 = (RD (m.2.1 2) (m.1 3) 10 0 (m.1 7) (m.1 8) (m.1 10)).2.2.2.2 := (hc157.1 4 rfl).trans ((hc130.1 4 rfl).trans ((hc92.1 4 rfl).trans o.2.2.2.1))
    exact ⟨_, _, rfl, hm156, hf162, Or.inl ⟨by rw [← hz]; omega, q4, (hc157.1 7 rfl).trans ((hc130.1 7 rfl).trans (p93.trans o.1)), (hc157.1 8 rfl).trans ((hc130.1 8 rfl).trans (p94.trans o.2.1)), (hc157.1 10 rfl).trans ((hc130.1 10 rfl).trans (p96.trans o.2.2.1)), (hc157.1 3 rfl).trans p132, p160, p161⟩, p158, p159⟩
  · intro kk177
    refine g_bipush (by decide) rfl ?_
    refine g_iret rfl rfl ?_
    exact ⟨_, _, rfl, hm54, hf60, Or.inr ⟨by rw [← hz]; omega, rfl, (hc55.1 7 rfl).trans (hc14.1 7 rfl), (hc55.1 8 rfl).trans (hc14.1 8 rfl), (hc55.1 10 rfl).trans (hc14.1 10 rfl), (hc55.1 3 rfl).trans (hc14.1 3 rfl), (hc55.1 22 rfl).trans (hc14.1 22 rfl), (hc55.1 0 rfl).trans (hc14.1 0 rfl)⟩, t79, t80⟩
theorem c_isUnder {V : cg_V} {d q : Nat} (hd : 0 ≤ d) (hq : 0 ≤ q) {m : kM} (hm : kI m) {k a : Int} (h_k : (-1) ≤ k ∧ k ≤ 8) (h_a : (-2147483648) ≤ a ∧ a ≤ 2147483647) : cg_S V d q mX9_isUnder [vI k, vI a] (kl m) (R_I (fun z m' => (m = m') ∧ (z = 0 ∨ z = 1))) := by
  refine cg_of (List.mem_of_getElem? (show ae_MT[94]? = some mX9_isUnder from rfl)) (Nat.le_of_ble_eq_true rfl) ?_
  show cg_G V mX9_isUnder d q _ 0 [(0, vI k), (1, vI a)] [] (kl m) 0 0
  refine g_iload_n (n := 0) rfl rfl ?_
  refine g_istore_n (n := 2) (lo' := [(0, vI k), (1, vI a)]) rfl rfl ?_
  refine g_iconst rfl ?_
  refine g_istore_n (n := 3) (lo' := [(2, vI k), (0, vI k), (1, vI a)]) rfl rfl ?_
  have L4_1 : ∀ (n4_1 : Nat) (o_1 : Int) (i_1 : Int), ((-1) ≤ o_1 ∧ o_1 ≤ 8) → (0 ≤ i_1 ∧ i_1 ≤ 8) → ((8 - i_1).toNat) = n4_1 → cg_G V mX9_isUnder d q (R_I (fun z m' => (m = m') ∧ (z = 0 ∨ z = 1))) 4 [(3, vI i_1), (2, vI o_1), (0, vI k), (1, vI a)] [] (kl m) 0 0 := by
    intro n4_1
    induction n4_1 using Nat.strongRecOn with
    | _ n4_1 ih4_1 =>
      intro o_1 i_1 i1 i2 q3
      refine g_iload_n (n := 3) rfl rfl ?_
      refine g_over (idx := 129) (by decide +kernel) (show decode cX9_isUnder 5 = .ok (.getstatic 129, 3) by decide +kernel) ?_
      refine g_ovlen (show decode cX9_isUnder 8 = .ok (.arraylength, 1) by decide +kernel) ?_
      refine g_icmp_ge (by omega) (by omega) (by decide) (by decide) rfl ?_ ?_
      · intro kk4
        refine g_iconst rfl ?_
        refine g_zret rfl rfl (by omega) ?_
        exact ⟨_, _, rfl, rfl, (by omega)⟩
      · intro kk5
        refine g_iload_n (n := 2) rfl rfl ?_
        refine g_if_lt (by omega) (by omega) rfl ?_ ?_
        · intro kk6
          refine g_iconst rfl ?_
          refine g_zret rfl rfl (by omega) ?_
          exact ⟨_, _, rfl, rfl, (by omega)⟩
        · intro kk7
          refine g_iload_n (n := 2) rfl rfl ?_
          refine g_over (idx := 129) (by decide +kernel) (show decode cX9_isUnder 17 = .ok (.getstatic 129, 3) by decide +kernel) ?_
          refine g_ovlen (show decode cX9_isUnder 20 = .ok (.arraylength, 1) by decide +kernel) ?_
          refine g_icmp_ge (by omega) (by omega) (by decide) (by decide) rfl ?_ ?_
          · intro kk8
            refine g_iconst rfl ?_
            refine g_zret rfl rfl (by omega) ?_
            exact ⟨_, _, rfl, rfl, (by omega)⟩
          · intro kk9
            refine g_iload_n (n := 2) rfl rfl ?_
            refine g_iload_n (n := 1) rfl rfl ?_
            refine g_icmp_ne (by omega) (by omega) (by omega) (by omega) rfl ?_ ?_
            · intro kk10
              refine g_over (idx := 129) (by decide +kernel) (show decode cX9_isUnder 31 = .ok (.getstatic 129, 3) by decide +kernel) ?_
              refine g_iload_n (n := 2) rfl rfl ?_
              refine g_ovld (by omega) (by omega) (show decode cX9_isUnder 35 = .ok (.iaload, 1) by decide +kernel) ?_
              intro z11 h12 h13 h14
              refine g_istore_n (n := 2) (lo' := [(3, vI i_1), (0, vI k), (1, vI a)]) rfl rfl ?_
              refine g_iinc (n := 3) (lo' := [(2, vI z11), (0, vI k), (1, vI a)]) rfl rfl rfl ?_
              refine g_goto rfl ?_
              exact ih4_1 _ (by omega) z11 (i_1 + 1) (by omega) (by omega) rfl
            · intro kk15
              refine g_iconst rfl ?_
              refine g_zret rfl rfl (by omega) ?_
              exact ⟨_, _, rfl, rfl, (by omega)⟩
  exact L4_1 _ k 0 (by omega) (by omega) rfl
theorem c_as {V : cg_V} {d q : Nat} (hd : 2 ≤ d) (hq : 45 ≤ q) {m : kM} (hm : kI m) {a w : Int} (h_a : (-2147483648) ≤ a ∧ a ≤ 2147483647) (h_w : (-2147483648) ≤ w ∧ w ≤ 2147483647) : cg_S V d q mX9_as [vR 0, vI a, vI w] (kl m) (R_I (fun z m' => (m = m') ∧ (-4 ≤ z) ∧ (z ≤ 2))) := by
  refine cg_of (List.mem_of_getElem? (show ae_MT[95]? = some mX9_as from rfl)) (Nat.le_of_ble_eq_true rfl) ?_
  show cg_G V mX9_as d q _ 0 [(0, vR 0), (1, vI a), (2, vI w)] [] (kl m) 0 0
  refine g_aload_n (n := 0) rfl rfl ?_
  refine g_getf (v := vR 3) rfl (kl_0 _) rfl ?_
  refine g_iload_n (n := 1) rfl rfl ?_
  have h1 : 0 ≤ m.1 8 ∧ m.1 8 ≤ 10 := hm.1 8
  refine c_vI (i := 3) (ps := [vI a]) (r := []) (as := [vR 3, vI a]) (cs' := 0) (sl' := 0) rfl rfl rfl rfl rfl rfl (kl_3 _) (c_hasDoor (d := d - 1) (q := q - (2 + 19)) (by omega) (by omega) hm (a := a) (show (-2147483648) ≤ a ∧ a ≤ 2147483647 by omega)) (by omega) (show 2 + 19 ≤ q by omega) (Nat.le_of_ble_eq_true rfl) (Nat.le_of_ble_eq_true rfl) rfl rfl rfl ?_
  rintro z2 m3 ⟨rfl, p5⟩
  refine g_if_ne (by omega) (by omega) rfl ?_ ?_
  · intro kk6
    refine g_iload_n (n := 2) rfl rfl ?_
    refine g_if_lt (by omega) (by omega) rfl ?_ ?_
    · intro kk7
      refine g_bipush (by decide) rfl ?_
      refine g_iret rfl rfl ?_
      exact ⟨_, _, rfl, rfl, (by omega), (by omega)⟩
    · intro kk8
      refine g_iload_n (n := 2) rfl rfl ?_
      refine g_over (idx := 129) (by decide +kernel) (show decode cX9_as 19 = .ok (.getstatic 129, 3) by decide +kernel) ?_
      refine g_ovlen (show decode cX9_as 22 = .ok (.arraylength, 1) by decide +kernel) ?_
      refine g_icmp_lt (by omega) (by omega) (by decide) (by decide) rfl ?_ ?_
      · intro kk9
        refine g_aload_n (n := 0) rfl rfl ?_
        refine g_getf (v := vR 3) rfl (kl_0 _) rfl ?_
        refine g_getf (v := vR 6) rfl (kl_3 _) rfl ?_
        refine g_iload_n (n := 1) rfl rfl ?_
        have h10 : 0 ≤ m.2.1 6 a ∧ m.2.1 6 a ≤ 5 := hm.2 6 a (by omega) (show a < (10 : Int) by omega)
        refine g_iald (f := m.2.1 6) rfl (kl_6 _) (by decide) (by omega) (by omega) ?_
        refine g_iconst rfl ?_
        refine g_iadd rfl ?_
        refine g_iload_n (n := 2) rfl rfl ?_
        refine c_sI (ps := [vI w, vI (m.2.1 6 a + 2)]) (r := []) (as := [vI (m.2.1 6 a + 2), vI w]) (cs' := 0) (sl' := 0) rfl rfl rfl rfl rfl rfl (c_isUnder (d := d - 1) (q := q - (4 + 19)) (by omega) (by omega) hm (k := (m.2.1 6 a + 2)) (a := w) (show (-1) ≤ (m.2.1 6 a + 2) ∧ (m.2.1 6 a + 2) ≤ 8 by omega) (show (-2147483648) ≤ w ∧ w ≤ 2147483647 by omega)) (by omega) (show 4 + 19 ≤ q by omega) (Nat.le_of_ble_eq_true rfl) (Nat.le_of_ble_eq_true rfl) rfl rfl rfl ?_
        rintro z11 m12 ⟨rfl, p14⟩
        refine g_if_ne (by omega) (by omega) rfl ?_ ?_
        · intro kk15
          refine g_aload_n (n := 0) rfl rfl ?_
          refine g_getf (v := vR 3) rfl (kl_0 _) rfl ?_
          refine g_iload_n (n := 1) rfl rfl ?_
          refine g_aload_n (n := 0) rfl rfl ?_
          refine g_getf (v := vR 3) rfl (kl_0 _) rfl ?_
          refine g_getf (v := vR 4) rfl (kl_3 _) rfl ?_
          refine g_iload_n (n := 1) rfl rfl ?_
          have h16 : 0 ≤ m.2.1 4 a ∧ m.2.1 4 a ≤ 5 := hm.2 4 a (by omega) (show a < (10 : Int) by omega)
          refine g_iald (f := m.2.1 4) rfl (kl_4 _) (by decide) (by omega) (by omega) ?_
          refine g_bipush (by decide) rfl ?_
          refine g_iconst rfl ?_
          refine c_vI (i := 3) (ps := [vI 0, vI 14, vI (m.2.1 4 a), vI a]) (r := []) (as := [vR 3, vI a, vI (m.2.1 4 a), vI 14, vI 0]) (cs' := 0) (sl' := 0) rfl rfl rfl rfl rfl rfl (kl_3 _) (c_opens (d := d - 1) (q := q - (5 + 19)) (by omega) (by omega) hm (a := a) (r := m.2.1 4 a) (b := 14) (l := 0) (show (-2147483648) ≤ a ∧ a ≤ 2147483647 by omega) (show (-2147483648) ≤ m.2.1 4 a ∧ m.2.1 4 a ≤ 2147483647 by omega) (show (-2147483648) ≤ 14 ∧ 14 ≤ 2147483647 by omega) (show 0 ≤ 0 ∧ 0 ≤ 1 by omega)) (by omega) (show 5 + 19 ≤ q by omega) (Nat.le_of_ble_eq_true rfl) (Nat.le_of_ble_eq_true rfl) rfl rfl rfl ?_
          rintro z17 m18 ⟨rfl, p20⟩
          refine g_if_eq (by omega) (by omega) rfl ?_ ?_
          · intro kk21
            refine g_iconst rfl ?_
            refine g_istore_n (n := 3) (lo' := [(0, vR 0), (1, vI a), (2, vI w)]) rfl rfl ?_
            refine g_aload_n (n := 0) rfl rfl ?_
            refine g_getf (v := vR 3) rfl (kl_0 _) rfl ?_
            refine g_iload_n (n := 1) rfl rfl ?_
            refine g_aload_n (n := 0) rfl rfl ?_
            refine g_getf (v := vR 3) rfl (kl_0 _) rfl ?_
            refine g_getf (v := vR 5) rfl (kl_3 _) rfl ?_
            refine g_iload_n (n := 1) rfl rfl ?_
            have h22 : 0 ≤ m.2.1 5 a ∧ m.2.1 5 a ≤ 5 := hm.2 5 a (by omega) (show a < (10 : Int) by omega)
            refine g_iald (f := m.2.1 5) rfl (kl_5 _) (by decide) (by omega) (by omega) ?_
            refine g_bipush (by decide) rfl ?_
            refine g_iconst rfl ?_
            refine c_vI (i := 3) (ps := [vI 0, vI 14, vI (m.2.1 5 a), vI a]) (r := []) (as := [vR 3, vI a, vI (m.2.1 5 a), vI 14, vI 0]) (cs' := 0) (sl' := 0) rfl rfl rfl rfl rfl rfl (kl_3 _) (c_opens (d := d - 1) (q := q - (5 + 19)) (by omega) (by omega) hm (a := a) (r := m.2.1 5 a) (b := 14) (l := 0) (show (-2147483648) ≤ a ∧ a ≤ 2147483647 by omega) (show (-2147483648) ≤ m.2.1 5 a ∧ m.2.1 5 a ≤ 2147483647 by omega) (show (-2147483648) ≤ 14 ∧ 14 ≤ 2147483647 by omega) (show 0 ≤ 0 ∧ 0 ≤ 1 by omega)) (by omega) (show 5 + 19 ≤ q by omega) (Nat.le_of_ble_eq_true rfl) (Nat.le_of_ble_eq_true rfl) rfl rfl rfl ?_
            rintro z23 m24 ⟨rfl, p26⟩
            refine g_if_eq (by omega) (by omega) rfl ?_ ?_
            · intro kk27
              refine g_iconst rfl ?_
              refine g_istore (n := 4) (lo' := [(3, vI 0), (0, vR 0), (1, vI a), (2, vI w)]) rfl rfl ?_
              refine g_iload_n (n := 3) rfl rfl ?_
              refine g_iload (n := 4) rfl rfl ?_
              refine g_iadd rfl ?_
              refine g_iret rfl rfl ?_
              exact ⟨_, _, rfl, rfl, (by omega), (by omega)⟩
            · intro kk28
              refine g_iconst rfl ?_
              refine g_goto rfl ?_
              refine g_istore (n := 4) (lo' := [(3, vI 0), (0, vR 0), (1, vI a), (2, vI w)]) rfl rfl ?_
              refine g_iload_n (n := 3) rfl rfl ?_
              refine g_iload (n := 4) rfl rfl ?_
              refine g_iadd rfl ?_
              refine g_iret rfl rfl ?_
              exact ⟨_, _, rfl, rfl, (by omega), (by omega)⟩
          · intro kk29
            refine g_iconst rfl ?_
            refine g_goto rfl ?_
            refine g_istore_n (n := 3) (lo' := [(0, vR 0), (1, vI a), (2, vI w)]) rfl rfl ?_
            refine g_aload_n (n := 0) rfl rfl ?_
            refine g_getf (v := vR 3) rfl (kl_0 _) rfl ?_
            refine g_iload_n (n := 1) rfl rfl ?_
            refine g_aload_n (n := 0) rfl rfl ?_
            refine g_getf (v := vR 3) rfl (kl_0 _) rfl ?_
            refine g_getf (v := vR 5) rfl (kl_3 _) rfl ?_
            refine g_iload_n (n := 1) rfl rfl ?_
            have h30 : 0 ≤ m.2.1 5 a ∧ m.2.1 5 a ≤ 5 := hm.2 5 a (by omega) (show a < (10 : Int) by omega)
            refine g_iald (f := m.2.1 5) rfl (kl_5 _) (by decide) (by omega) (by omega) ?_
            refine g_bipush (by decide) rfl ?_
            refine g_iconst rfl ?_
            refine c_vI (i := 3) (ps := [vI 0, vI 14, vI (m.2.1 5 a), vI a]) (r := []) (as := [vR 3, vI a, vI (m.2.1 5 a), vI 14, vI 0]) (cs' := 0) (sl' := 0) rfl rfl rfl rfl rfl rfl (kl_3 _) (c_opens (d := d - 1) (q := q - (5 + 19)) (by omega) (by omega) hm (a := a) (r := m.2.1 5 a) (b := 14) (l := 0) (show (-2147483648) ≤ a ∧ a ≤ 2147483647 by omega) (show (-2147483648) ≤ m.2.1 5 a ∧ m.2.1 5 a ≤ 2147483647 by omega) (show (-2147483648) ≤ 14 ∧ 14 ≤ 2147483647 by omega) (show 0 ≤ 0 ∧ 0 ≤ 1 by omega)) (by omega) (show 5 + 19 ≤ q by omega) (Nat.le_of_ble_eq_true rfl) (Nat.le_of_ble_eq_true rfl) rfl rfl rfl ?_
            rintro z31 m32 ⟨rfl, p34⟩
            refine g_if_eq (by omega) (by omega) rfl ?_ ?_
            · intro kk35
              refine g_iconst rfl ?_
              refine g_istore (n := 4) (lo' := [(3, vI 1), (0, vR 0), (1, vI a), (2, vI w)]) rfl rfl ?_
              refine g_iload_n (n := 3) rfl rfl ?_
              refine g_iload (n := 4) rfl rfl ?_
              refine g_iadd rfl ?_
              refine g_iret rfl rfl ?_
              exact ⟨_, _, rfl, rfl, (by omega), (by omega)⟩
            · intro kk36
              refine g_iconst rfl ?_
              refine g_goto rfl ?_
              refine g_istore (n := 4) (lo' := [(3, vI 1), (0, vR 0), (1, vI a), (2, vI w)]) rfl rfl ?_
              refine g_iload_n (n := 3) rfl rfl ?_
              refine g_iload (n := 4) rfl rfl ?_
              refine g_iadd rfl ?_
              refine g_iret rfl rfl ?_
              exact ⟨_, _, rfl, rfl, (by omega), (by omega)⟩
        · intro kk37
          refine g_bipush (by decide) rfl ?_
          refine g_iret rfl rfl ?_
          exact ⟨_, _, rfl, rfl, (by omega), (by omega)⟩
      · intro kk38
        refine g_bipush (by decide) rfl ?_
        refine g_iret rfl rfl ?_
        exact ⟨_, _, rfl, rfl, (by omega), (by omega)⟩
  · intro kk39
    refine g_bipush (by decide) rfl ?_
    refine g_iret rfl rfl ?_
    exact ⟨_, _, rfl, rfl, (by omega), (by omega)⟩
