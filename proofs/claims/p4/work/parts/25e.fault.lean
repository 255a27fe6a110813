/-! ===== contracts: the model, a text read ===== -/
theorem VR_step {f g : Int → Int} {s : kU} {N R D H R' D' H' : Int} (hN : 0 ≤ N) (h : ∀ j : Int, j < 4 * N → g j = f j) (hv : VR f N.toNat s) (hF : FD f N.toNat s = (R, D, H)) (hn : rv (g (4 * N)) (g (4 * N + 1)) (g (4 * N + 2)) (g (4 * N + 3)) D H) (hw : (R', D', H') = rw1 (g (4 * N)) (g (4 * N + 1)) (R, D, H)) : VR g (N + 1).toNat s ∧ FD g (N + 1).toNat s = (R', D', H') := by
  have e : (N + 1).toNat = N.toNat + 1 := by omega
  have e2 : ((N.toNat : Nat) : Int) = N := by omega
  rw [e]
  refine ⟨VR_snoc (by rw [e2]; exact h) hv (by rw [e2, hF]; exact hn), ?_⟩
  rw [FD_snoc (by rw [e2]; exact h), e2, hF, hw]
theorem rw1_ok {w a b c R D H R' D' H' : Int} (hv : rv w a b c D H) (h4 : pcn H ≤ 4) (hH : 0 ≤ H ∧ H ≤ 63) (hR : 2 ≤ R) (hw : (R', D', H') = rw1 w a (R, D, H)) : 2 ≤ R' ∧ pcn H' ≤ 4 := by
  have p0 : pcn 0 = 0 := by decide
  unfold rw1 at hw
  by_cases q0 : w = 0
  · rw [if_pos q0] at hw
    injection hw with h1 hw
    injection hw with h2 h3
    subst h1
    subst h3
    unfold rv at hv
    omega
  · rw [if_neg q0] at hw
    by_cases q6 : w ≤ 6
    · rw [if_pos q6] at hw
      injection hw with h1 hw
      injection hw with h2 h3
      have h1 : R' = R := h1
      have h3 : H' = H := h3
      rw [h1, h3]
      exact ⟨hR, h4⟩
    · rw [if_neg q6] at hw
      by_cases q8 : w = 8
      · rw [if_pos q8] at hw
        injection hw with h1 hw
        injection hw with h2 h3
        have h1 : R' = R := h1
        have h3 : H' = stb H a := h3
        have hh : w = 8 ∧ 0 ≤ a ∧ a ≤ 5 ∧ hb H a ≠ 1 ∧ pcn H < 4 := by unfold rv at hv; omega
        rw [h1, h3, stb_pcn hH.1 hH.2 hh.2.1 hh.2.2.1 hh.2.2.2.1]
        omega
      · rw [if_neg q8] at hw
        injection hw with h1 hw
        injection hw with h2 h3
        rw [h1, h3]
        exact ⟨hR, h4⟩
theorem RD_s (t : Int → Int) (n : Int) (k : Nat) (p R D H : Int) : RD t n (k + 1) p R D H = if LK t n p R D H = 0 then (LQ t n p R D, 0, 0, 0, 0) else AF (RD t n k) t n k (LE t n p) (LR t n p R) (LD t n p D) (LH t n p R H) := rfl
set_option maxHeartbeats 8000000 in
theorem d_fault {V : cg_V} {d q : Nat} (hd : 6 ≤ d) (hq : 133 ≤ q) {m : kM} (hm : kI m) (h_k4 : k4 m) : cg_S V d q mX10_fault [vR 61] (kl m) (R_I (fun z m' => (kI m') ∧ (fr [24, 31, 32, 33, 34, 35, 36] [65] m m') ∧ (z = (RD (m.2.1 64) (m.1 23) 10 0 (m.1 25) (m.1 26) (m.1 28)).1) ∧ (z = -1 → (m'.1 24 = (RD (m.2.1 64) (m.1 23) 10 0 (m.1 25) (m.1 26) (m.1 28)).2.2.2.2 ∧ VR (m'.2.1 65) (Int.toNat (m'.1 24)) (m.1 25, m.1 26, m.1 28) ∧ FD (m'.2.1 65) (Int.toNat (m'.1 24)) (m.1 25, m.1 26, m.1 28) = ((RD (m.2.1 64) (m.1 23) 10 0 (m.1 25) (m.1 26) (m.1 28)).2.1, (RD (m.2.1 64) (m.1 23) 10 0 (m.1 25) (m.1 26) (m.1 28)).2.2.1, (RD (m.2.1 64) (m.1 23) 10 0 (m.1 25) (m.1 26) (m.1 28)).2.2.2.1) ∧ ∀ y : kY, FY (m'.2.1 65) (Int.toNat (m'.1 24)) (m.1 25, m.1 26, m.1 28) y = RG (m.2.1 64) (m.1 23) 10 0 (m.1 25) (m.1 26) (m.1 28) y)) ∧ (-1 ≤ z) ∧ (z ≤ 200))) := by
  have hf0 : fr [24, 31, 32, 33, 34, 35, 36] [65] m m := fr_rf m
  refine cg_of (List.mem_of_getElem? (show ae_MT[134]? = some mX10_fault from rfl)) (Nat.le_of_ble_eq_true rfl) ?_
  show cg_G V mX10_fault d q _ 0 [(0, vR 61)] [] (kl m) 0 0
  have h1 : 0 ≤ m.1 23 ∧ m.1 23 ≤ 200 := hm.1 23
  have h2 : 2 ≤ m.1 25 ∧ m.1 25 ≤ 6 := hm.1 25
  have h3 : 0 ≤ m.1 26 ∧ m.1 26 ≤ 10 := hm.1 26
  have h4 : 0 ≤ m.1 28 ∧ m.1 28 ≤ 63 := hm.1 28
  have w23 : 0 ≤ m.1 23 ∧ m.1 23 ≤ 200 := hm.1 23
  refine g_aload_n (n := 0) rfl rfl ?_
  refine g_iconst rfl ?_
  refine g_putF (m' := (kF m 31 0)) rfl (kl_61 _) rfl rfl rfl rfl (kF_31 _ _) ?_
  have hm5 : kI (kF m 31 0) := kI_F hm 31 (show (0 : Int) ≤ 0 by omega) (show 0 ≤ (200 : Int) by omega)
  have hf6 : fr [24, 31, 32, 33, 34, 35, 36] [65] m (kF m 31 0) := fr_F hf0 31 _ rfl
  refine g_aload_n (n := 0) rfl rfl ?_
  refine g_iconst rfl ?_
  refine g_putF (m' := (kF (kF m 31 0) 24 0)) rfl (kl_61 _) rfl rfl rfl rfl (kF_24 _ _) ?_
  have hm7 : kI (kF (kF m 31 0) 24 0) := kI_F hm5 24 (show (0 : Int) ≤ 0 by omega) (show 0 ≤ (10 : Int) by omega)
  have hf8 : fr [24, 31, 32, 33, 34, 35, 36] [65] m (kF (kF m 31 0) 24 0) := fr_F hf6 24 _ rfl
  refine g_aload_n (n := 0) rfl rfl ?_
  refine g_aload_n (n := 0) rfl rfl ?_
  refine g_getf (v := vI (m.1 25)) rfl (kl_61 _) rfl ?_
  refine g_putF (m' := (kF (kF (kF m 31 0) 24 0) 34 (m.1 25))) rfl (kl_61 _) rfl rfl rfl rfl (kF_34 _ _) ?_
  have hm9 : kI (kF (kF (kF m 31 0) 24 0) 34 (m.1 25)) := kI_F hm7 34 (show (0 : Int) ≤ m.1 25 by omega) (show m.1 25 ≤ (6 : Int) by omega)
  have hf10 : fr [24, 31, 32, 33, 34, 35, 36] [65] m (kF (kF (kF m 31 0) 24 0) 34 (m.1 25)) := fr_F hf8 34 _ rfl
  refine g_aload_n (n := 0) rfl rfl ?_
  refine g_aload_n (n := 0) rfl rfl ?_
  refine g_getf (v := vI (m.1 26)) rfl (kl_61 _) rfl ?_
  refine g_putF (m' := (kF (kF (kF (kF m 31 0) 24 0) 34 (m.1 25)) 35 (m.1 26))) rfl (kl_61 _) rfl rfl rfl rfl (kF_35 _ _) ?_
  have hm11 : kI (kF (kF (kF (kF m 31 0) 24 0) 34 (m.1 25)) 35 (m.1 26)) := kI_F hm9 35 (show (0 : Int) ≤ m.1 26 by omega) (show m.1 26 ≤ (10 : Int) by omega)
  have hf12 : fr [24, 31, 32, 33, 34, 35, 36] [65] m (kF (kF (kF (kF m 31 0) 24 0) 34 (m.1 25)) 35 (m.1 26)) := fr_F hf10 35 _ rfl
  refine g_aload_n (n := 0) rfl rfl ?_
  refine g_aload_n (n := 0) rfl rfl ?_
  refine g_getf (v := vI (m.1 28)) rfl (kl_61 _) rfl ?_
  refine g_putF (m' := (kF (kF (kF (kF (kF m 31 0) 24 0) 34 (m.1 25)) 35 (m.1 26)) 36 (m.1 28))) rfl (kl_61 _) rfl rfl rfl rfl (kF_36 _ _) ?_
  have hm13 : kI (kF (kF (kF (kF (kF m 31 0) 24 0) 34 (m.1 25)) 35 (m.1 26)) 36 (m.1 28)) := kI_F hm11 36 (show (0 : Int) ≤ m.1 28 by omega) (show m.1 28 ≤ (63 : Int) by omega)
  have hf14 : fr [24, 31, 32, 33, 34, 35, 36] [65] m (kF (kF (kF (kF (kF m 31 0) 24 0) 34 (m.1 25)) 35 (m.1 26)) 36 (m.1 28)) := fr_F hf12 36 _ rfl
  refine g_aload_n (n := 0) rfl rfl ?_
  have h15 : (kF (kF (kF (kF (kF m 31 0) 24 0) 34 (m.1 25)) 35 (m.1 26)) 36 (m.1 28)).1 23 = m.1 23 := rfl
  have h16 : (kF (kF (kF (kF (kF m 31 0) 24 0) 34 (m.1 25)) 35 (m.1 26)) 36 (m.1 28)).1 31 = 0 := rfl
  refine c_vV (i := 61) (ps := []) (r := []) (as := [vR 61]) (cs' := 0) (sl' := 0) rfl rfl rfl rfl rfl rfl (kl_61 _) (d_token (d := d - 1) (q := q - (1 + 19)) (by omega) (by omega) hm13  (show (0 : Int) ≤ m.1 23 by omega)) (by omega) (show 1 + 19 ≤ q by omega) (Nat.le_of_ble_eq_true rfl) (Nat.le_of_ble_eq_true rfl) rfl rfl rfl ?_
  rintro m18 ⟨hm20, hc21, p22, p23, p24⟩
  have hf25 : fr [24, 31, 32, 33, 34, 35, 36] [65] m m18 := fr_tr hf14 (fr_le hc21 rfl rfl)
  have h26 : m18.1 23 = m.1 23 := hc21.1 23 rfl
  have h27 : 0 ≤ m18.1 23 ∧ m18.1 23 ≤ 200 := hm20.1 23
  have h28 : m18.1 24 = 0 := hc21.1 24 rfl
  have h29 : 0 ≤ m18.1 24 ∧ m18.1 24 ≤ 10 := hm20.1 24
  have h30 : m18.1 25 = m.1 25 := hc21.1 25 rfl
  have h31 : 2 ≤ m18.1 25 ∧ m18.1 25 ≤ 6 := hm20.1 25
  have h32 : m18.1 26 = m.1 26 := hc21.1 26 rfl
  have h33 : 0 ≤ m18.1 26 ∧ m18.1 26 ≤ 10 := hm20.1 26
  have h34 : m18.1 28 = m.1 28 := hc21.1 28 rfl
  have h35 : 0 ≤ m18.1 28 ∧ m18.1 28 ≤ 63 := hm20.1 28
  have h36 : m18.1 34 = m.1 25 := hc21.1 34 rfl
  have h37 : 0 ≤ m18.1 34 ∧ m18.1 34 ≤ 6 := hm20.1 34
  have h38 : m18.1 35 = m.1 26 := hc21.1 35 rfl
  have h39 : 0 ≤ m18.1 35 ∧ m18.1 35 ≤ 10 := hm20.1 35
  have h40 : m18.1 36 = m.1 28 := hc21.1 36 rfl
  have h41 : 0 ≤ m18.1 36 ∧ m18.1 36 ≤ 63 := hm20.1 36
  have t42 : k4 m18 := k4_fr hc21 rfl rfl h_k4
  have aT : m18.2.1 64 = m.2.1 64 := hc21.2.1 64 rfl
  have aN : m18.1 23 = m.1 23 := hc21.1 23 rfl
  have a24 : m18.1 24 = 0 := hc21.1 24 rfl
  have a34 : m18.1 34 = m.1 25 := hc21.1 34 rfl
  have a35 : m18.1 35 = m.1 26 := hc21.1 35 rfl
  have a36 : m18.1 36 = m.1 28 := hc21.1 36 rfl
  have htk : tk m18 0 := by unfold tk; rw [aT, aN]; exact ⟨by omega, p22, p23, p24⟩
  have v0 : VR (m18.2.1 65) (Int.toNat (m18.1 24)) (m.1 25, m.1 26, m.1 28) := by rw [a24]; intro j hj; exact absurd hj (Nat.not_lt_zero j)
  have f0 : FD (m18.2.1 65) (Int.toNat (m18.1 24)) (m.1 25, m.1 26, m.1 28) = (m18.1 34, m18.1 35, m18.1 36) := by rw [a24, a34, a35, a36]; rfl
  refine g_aload_n (n := 0) rfl rfl ?_
  refine c_vI (i := 61) (ps := []) (r := []) (as := [vR 61]) (cs' := 0) (sl' := 0) rfl rfl rfl rfl rfl rfl (kl_61 _) (d_readsLine (d := d - 1) (q := q - (2 + 19)) (by omega) (by omega) hm20  htk (show m18.1 24 ≤ 9 by omega) (show 2 ≤ m18.1 34 by omega) (show pcn (m18.1 36) ≤ 4 by rw [a36]; exact h_k4)) (by omega) (show 2 + 19 ≤ q by omega) (Nat.le_of_ble_eq_true rfl) (Nat.le_of_ble_eq_true rfl) rfl rfl rfl ?_
  rintro z43 m44 ⟨hm46, hc47, p48⟩
  have hf49 : fr [24, 31, 32, 33, 34, 35, 36] [65] m m44 := fr_tr hf25 (fr_le hc47 rfl rfl)
  have h50 : m44.1 23 = m18.1 23 := hc47.1 23 rfl
  have h51 : 0 ≤ m44.1 23 ∧ m44.1 23 ≤ 200 := hm46.1 23
  have h52 : m44.1 25 = m18.1 25 := hc47.1 25 rfl
  have h53 : 2 ≤ m44.1 25 ∧ m44.1 25 ≤ 6 := hm46.1 25
  have h54 : m44.1 26 = m18.1 26 := hc47.1 26 rfl
  have h55 : 0 ≤ m44.1 26 ∧ m44.1 26 ≤ 10 := hm46.1 26
  have h56 : m44.1 28 = m18.1 28 := hc47.1 28 rfl
  have h57 : 0 ≤ m44.1 28 ∧ m44.1 28 ≤ 63 := hm46.1 28
  have t58 : k4 m44 := k4_fr hc47 rfl rfl t42
  have h0 := p48
  rw [aT, aN] at h0
  clear p48
  refine g_if_ne (by omega) (by omega) rfl ?_ ?_
  · intro kk59
    obtain ⟨-, k1, k2, k3, k4_, k5, k6, k7, k8, k9, k10⟩ := h0.resolve_right (fun h => by omega)
    clear h0
    have hst := VR_step (show 0 ≤ m18.1 24 by omega) k9 v0 f0 k7 k8
    rw [← k3] at hst
    have hrk := rw1_ok k7 (show pcn (m18.1 36) ≤ 4 by rw [a36]; exact h_k4) (show 0 ≤ m18.1 36 ∧ m18.1 36 ≤ 63 by omega) (show 2 ≤ m18.1 34 by omega) k8
    have hF9 : FD (m18.2.1 65) (Int.toNat (m18.1 24)) (m.1 25, m.1 26, m.1 28) = (m18.1 34, m18.1 35, m18.1 36) := f0
    have hFY : ∀ y : kY, (FY (m44.2.1 65) (Int.toNat (m44.1 24)) (m.1 25, m.1 26, m.1 28) y) = LY (m.2.1 64) (m.1 23) 0 (m18.1 34) (m18.1 35) (FY (m18.2.1 65) (Int.toNat (m18.1 24)) (m.1 25, m.1 26, m.1 28) y) := fun y => by rw [k3, FY_step (show 0 ≤ m18.1 24 by omega) k9 hF9]; exact k10 _
    have hT0 : ∃ e : Int, tk m44 e ∧ AF (RD (m.2.1 64) (m.1 23) (Int.toNat (10 - m44.1 24))) (m.2.1 64) (m.1 23) (Int.toNat (10 - m44.1 24)) e (m44.1 34) (m44.1 35) (m44.1 36) = (RD (m.2.1 64) (m.1 23) 10 0 (m.1 25) (m.1 26) (m.1 28)) ∧ ∀ y : kY, AG (RG (m.2.1 64) (m.1 23) (Int.toNat (10 - m44.1 24))) (m.2.1 64) (m.1 23) (Int.toNat (10 - m44.1 24)) e (m44.1 34) (m44.1 35) (m44.1 36) (FY (m44.2.1 65) (Int.toNat (m44.1 24)) (m.1 25, m.1 26, m.1 28) y) = RG (m.2.1 64) (m.1 23) 10 0 (m.1 25) (m.1 26) (m.1 28) y := by
      rw [a34, a35, a36] at k1
      refine ⟨_, k2, ?_, fun y => ?_⟩
      · rw [show Int.toNat (10 - m44.1 24) = 9 by omega, k4_, k5, k6, show (10 : Nat) = 9 + 1 from rfl, RD_s]
        rw [a34, a35, a36]
        exact (if_neg (show ¬ (LK (m.2.1 64) (m.1 23) 0 (m.1 25) (m.1 26) (m.1 28) = 0) by omega)).symm
      · rw [hFY, show (FY (m18.2.1 65) (Int.toNat (m18.1 24)) (m.1 25, m.1 26, m.1 28) y) = y by rw [a24]; rfl, show Int.toNat (10 - m44.1 24) = 9 by omega, k4_, k5, k6, show (10 : Nat) = 9 + 1 from rfl, RG_s]
        rw [a34, a35, a36]
        exact (if_neg (show ¬ (LK (m.2.1 64) (m.1 23) 0 (m.1 25) (m.1 26) (m.1 28) = 0) by omega)).symm
    have L50_1 : ∀ (n50_1 : Nat)  (mL1 : kM), (kI mL1) → (fr [24, 31, 32, 33, 34, 35, 36] [65] m mL1) → (∃ e : Int, tk mL1 e ∧ AF (RD (m.2.1 64) (m.1 23) (Int.toNat (10 - mL1.1 24))) (m.2.1 64) (m.1 23) (Int.toNat (10 - mL1.1 24)) e (mL1.1 34) (mL1.1 35) (mL1.1 36) = (RD (m.2.1 64) (m.1 23) 10 0 (m.1 25) (m.1 26) (m.1 28)) ∧ ∀ y : kY, AG (RG (m.2.1 64) (m.1 23) (Int.toNat (10 - mL1.1 24))) (m.2.1 64) (m.1 23) (Int.toNat (10 - mL1.1 24)) e (mL1.1 34) (mL1.1 35) (mL1.1 36) (FY (mL1.2.1 65) (Int.toNat (mL1.1 24)) (m.1 25, m.1 26, m.1 28) y) = RG (m.2.1 64) (m.1 23) 10 0 (m.1 25) (m.1 26) (m.1 28) y) → (1 ≤ mL1.1 24) → (2 ≤ mL1.1 34) → (pcn (mL1.1 36) ≤ 4) → (VR (mL1.2.1 65) (Int.toNat (mL1.1 24)) (m.1 25, m.1 26, m.1 28)) → (FD (mL1.2.1 65) (Int.toNat (mL1.1 24)) (m.1 25, m.1 26, m.1 28) = (mL1.1 34, mL1.1 35, mL1.1 36)) → ((10 - mL1.1 24).toNat) = n50_1 → cg_G V mX10_fault d q (R_I (fun z m' => (kI m') ∧ (fr [24, 31, 32, 33, 34, 35, 36] [65] m m') ∧ (z = (RD (m.2.1 64) (m.1 23) 10 0 (m.1 25) (m.1 26) (m.1 28)).1) ∧ (z = -1 → (m'.1 24 = (RD (m.2.1 64) (m.1 23) 10 0 (m.1 25) (m.1 26) (m.1 28)).2.2.2.2 ∧ VR (m'.2.1 65) (Int.toNat (m'.1 24)) (m.1 25, m.1 26, m.1 28) ∧ FD (m'.2.1 65) (Int.toNat (m'.1 24)) (m.1 25, m.1 26, m.1 28) = ((RD (m.2.1 64) (m.1 23) 10 0 (m.1 25) (m.1 26) (m.1 28)).2.1, (RD (m.2.1 64) (m.1 23) 10 0 (m.1 25) (m.1 26) (m.1 28)).2.2.1, (RD (m.2.1 64) (m.1 23) 10 0 (m.1 25) (m.1 26) (m.1 28)).2.2.2.1) ∧ ∀ y : kY, FY (m'.2.1 65) (Int.toNat (m'.1 24)) (m.1 25, m.1 26, m.1 28) y = RG (m.2.1 64) (m.1 23) 10 0 (m.1 25) (m.1 26) (m.1 28) y)) ∧ (-1 ≤ z) ∧ (z ≤ 200))) 50 [(0, vR 61)] [] (kl mL1) 0 0 := by
      intro n50_1
      induction n50_1 using Nat.strongRecOn with
      | _ n50_1 ih50_1 =>
        intro mL1 hmL1 hfL1 iT i1 iR i4 iV iF q60
        obtain ⟨e, ht, hAF, hAG⟩ := iT
        refine g_aload_n (n := 0) rfl rfl ?_
        have h61 : 0 ≤ mL1.1 32 ∧ mL1.1 32 ≤ 200 := hmL1.1 32
        refine g_getf (v := vI (mL1.1 32)) rfl (kl_61 _) rfl ?_
        refine g_aload_n (n := 0) rfl rfl ?_
        have h62 : 0 ≤ mL1.1 23 ∧ mL1.1 23 ≤ 200 := hmL1.1 23
        have h63 : mL1.1 23 = m.1 23 := hfL1.1 23 rfl
        refine g_getf (v := vI (mL1.1 23)) rfl (kl_61 _) rfl ?_
        refine g_icmp_ge (by omega) (by omega) (by omega) (by omega) rfl ?_ ?_
        · intro kk64
          refine g_iconst rfl ?_
          refine g_iret rfl rfl ?_
          have w24 : 0 ≤ mL1.1 24 ∧ mL1.1 24 ≤ 10 := hmL1.1 24
          have bT : mL1.2.1 64 = m.2.1 64 := hfL1.2.1 64 rfl
          have bN : mL1.1 23 = m.1 23 := hfL1.1 23 rfl
          have q8 : mL1.1 32 = SK (m.2.1 64) (m.1 23) e := by have h8 := ht.2.1; rw [bT, bN] at h8; exact h8
          have hsr := SK_rng (t := m.2.1 64) (show e ≤ m.1 23 by have := ht.1; omega)
          have hYz : ∀ y : kY, (FY (mL1.2.1 65) (Int.toNat (mL1.1 24)) (m.1 25, m.1 26, m.1 28) y) = RG (m.2.1 64) (m.1 23) 10 0 (m.1 25) (m.1 26) (m.1 28) y := fun y => by have h9 := hAG y; unfold AG at h9; rw [if_pos (show SK (m.2.1 64) (m.1 23) e = m.1 23 by omega)] at h9; exact h9
          unfold AF at hAF
          rw [if_pos (show SK (m.2.1 64) (m.1 23) e = m.1 23 by omega)] at hAF
          exact ⟨_, _, rfl, hmL1, hfL1, (by rw [← hAF]), (fun _ => ⟨by rw [← hAF]; show mL1.1 24 = 10 - ((Int.toNat (10 - mL1.1 24) : Nat) : Int); omega, iV, by rw [← hAF]; exact iF, hYz⟩), by omega, by omega⟩
        · intro kk65
          have hs3 := srt_sp (m.2.1 64 (mL1.1 32))
          have bT : mL1.2.1 64 = m.2.1 64 := hfL1.2.1 64 rfl
          have bN : mL1.1 23 = m.1 23 := hfL1.1 23 rfl
          have hsm : m.2.1 64 (mL1.1 32) = 59 → mL1.1 33 = mL1.1 32 + 1 := fun h => by have h9 := ht.2.2.1; rw [bT, bN] at h9; have h8 := ht.2.1; rw [bT, bN] at h8; rw [h9]; show TE _ _ (SK _ _ _) = _; rw [← h8]; exact TE_1 (by omega) (by omega)
          have q8 : mL1.1 32 = SK (m.2.1 64) (m.1 23) e := by have h8 := ht.2.1; rw [bT, bN] at h8; exact h8
          have hA2 := hAF
          unfold AF at hA2
          rw [← q8, if_neg (show ¬ (mL1.1 32 = m.1 23) by omega)] at hA2
          refine g_aload_n (n := 0) rfl rfl ?_
          have h66 : 0 ≤ mL1.1 33 ∧ mL1.1 33 ≤ 200 := hmL1.1 33
          refine g_getf (v := vI (mL1.1 33)) rfl (kl_61 _) rfl ?_
          refine g_aload_n (n := 0) rfl rfl ?_
          refine g_getf (v := vI (mL1.1 32)) rfl (kl_61 _) rfl ?_
          refine g_isub rfl ?_
          refine g_iconst rfl ?_
          refine g_icmp_ne (by omega) (by omega) (by decide) (by decide) rfl ?_ ?_
          · intro kk67
            refine g_iconst rfl ?_
            refine g_istore_n (n := 1) (lo' := [(0, vR 61)]) rfl rfl ?_
            refine g_iload_n (n := 1) rfl rfl ?_
            refine g_if_eq (by decide) (by decide) rfl ?_ ?_
            · intro kk68
              refine g_iload_n (n := 1) rfl rfl ?_
              refine g_if_ne (by decide) (by decide) rfl ?_ ?_
              · intro kk69
                exfalso; omega
              · intro kk70
                refine g_aload_n (n := 0) rfl rfl ?_
                refine g_getf (v := vI (mL1.1 32)) rfl (kl_61 _) rfl ?_
                refine g_iret rfl rfl ?_
                rw [if_pos (show m.2.1 64 (mL1.1 32) ≠ 59 ∨ Int.toNat (10 - mL1.1 24) = 0 by omega)] at hA2
                exact ⟨_, _, rfl, hmL1, hfL1, (by rw [← hA2]), (fun h => by omega), by omega, by omega⟩
            · intro kk71
              exfalso; omega
          · intro kk72
            refine g_aload_n (n := 0) rfl rfl ?_
            refine g_getf (v := vR 64) rfl (kl_61 _) rfl ?_
            refine g_aload_n (n := 0) rfl rfl ?_
            refine g_getf (v := vI (mL1.1 32)) rfl (kl_61 _) rfl ?_
            have h73 : 0 ≤ mL1.2.1 64 (mL1.1 32) ∧ mL1.2.1 64 (mL1.1 32) ≤ 255 := hmL1.2 64 (mL1.1 32) (by omega) (show mL1.1 32 < (200 : Int) by omega)
            have h74 : mL1.2.1 64 (mL1.1 32) = m.2.1 64 (mL1.1 32) := congrFun (hfL1.2.1 64 rfl) _
            refine g_iald (f := mL1.2.1 64) rfl (kl_64 _) (by decide) (by omega) (by omega) ?_
            refine g_bipush (by decide) rfl ?_
            refine g_icmp_ne (by omega) (by omega) (by decide) (by decide) rfl ?_ ?_
            · intro kk75
              refine g_iconst rfl ?_
              refine g_istore_n (n := 1) (lo' := [(0, vR 61)]) rfl rfl ?_
              refine g_iload_n (n := 1) rfl rfl ?_
              refine g_if_eq (by decide) (by decide) rfl ?_ ?_
              · intro kk76
                refine g_iload_n (n := 1) rfl rfl ?_
                refine g_if_ne (by decide) (by decide) rfl ?_ ?_
                · intro kk77
                  exfalso; omega
                · intro kk78
                  refine g_aload_n (n := 0) rfl rfl ?_
                  refine g_getf (v := vI (mL1.1 32)) rfl (kl_61 _) rfl ?_
                  refine g_iret rfl rfl ?_
                  rw [if_pos (show m.2.1 64 (mL1.1 32) ≠ 59 ∨ Int.toNat (10 - mL1.1 24) = 0 by omega)] at hA2
                  exact ⟨_, _, rfl, hmL1, hfL1, (by rw [← hA2]), (fun h => by omega), by omega, by omega⟩
              · intro kk79
                exfalso; omega
            · intro kk80
              refine g_aload_n (n := 0) rfl rfl ?_
              have h81 : 0 ≤ mL1.1 24 ∧ mL1.1 24 ≤ 10 := hmL1.1 24
              refine g_getf (v := vI (mL1.1 24)) rfl (kl_61 _) rfl ?_
              refine g_bipush (by decide) rfl ?_
              refine g_icmp_ge (by omega) (by omega) (by decide) (by decide) rfl ?_ ?_
              · intro kk82
                refine g_iconst rfl ?_
                refine g_istore_n (n := 1) (lo' := [(0, vR 61)]) rfl rfl ?_
                refine g_iload_n (n := 1) rfl rfl ?_
                refine g_if_eq (by decide) (by decide) rfl ?_ ?_
                · intro kk83
                  refine g_iload_n (n := 1) rfl rfl ?_
                  refine g_if_ne (by decide) (by decide) rfl ?_ ?_
                  · intro kk84
                    exfalso; omega
                  · intro kk85
                    refine g_aload_n (n := 0) rfl rfl ?_
                    refine g_getf (v := vI (mL1.1 32)) rfl (kl_61 _) rfl ?_
                    refine g_iret rfl rfl ?_
                    rw [if_pos (show m.2.1 64 (mL1.1 32) ≠ 59 ∨ Int.toNat (10 - mL1.1 24) = 0 by omega)] at hA2
                    exact ⟨_, _, rfl, hmL1, hfL1, (by rw [← hA2]), (fun h => by omega), by omega, by omega⟩
                · intro kk86
                  exfalso; omega
              · intro kk87
                refine g_iconst rfl ?_
                refine g_goto rfl ?_
                refine g_istore_n (n := 1) (lo' := [(0, vR 61)]) rfl rfl ?_
                refine g_iload_n (n := 1) rfl rfl ?_
                refine g_if_eq (by decide) (by decide) rfl ?_ ?_
                · intro kk88
                  exfalso; omega
                · intro kk89
                  have q59 : m.2.1 64 (mL1.1 32) = 59 := by omega
                  rw [if_neg (fun h => h.elim (fun h => h q59) (fun h => by omega))] at hA2
                  have het : mL1.1 31 ≤ mL1.1 23 := by have h9 := ht.2.2.2; rw [bT, bN] at h9; have h8 := ht.1; have h7 := EP_rng (t := m.2.1 64) (show e ≤ m.1 23 by omega); omega
                  have q31 : mL1.1 31 = EP (m.2.1 64) (m.1 23) e := by have h9 := ht.2.2.2; rw [bT, bN] at h9; exact h9
                  refine g_aload_n (n := 0) rfl rfl ?_
                  have h90 : 0 ≤ mL1.1 31 ∧ mL1.1 31 ≤ 200 := hmL1.1 31
                  refine c_vV (i := 61) (ps := []) (r := []) (as := [vR 61]) (cs' := 0) (sl' := 0) rfl rfl rfl rfl rfl rfl (kl_61 _) (d_token (d := d - 1) (q := q - (1 + 19)) (by omega) (by omega) hmL1  het) (by omega) (show 1 + 19 ≤ q by omega) (Nat.le_of_ble_eq_true rfl) (Nat.le_of_ble_eq_true rfl) rfl rfl rfl ?_
                  rintro m92 ⟨hm94, hc95, p96, p97, p98⟩
                  have hf99 : fr [24, 31, 32, 33, 34, 35, 36] [65] m m92 := fr_tr hfL1 (fr_le hc95 rfl rfl)
                  have h100 : m92.1 23 = mL1.1 23 := hc95.1 23 rfl
                  have h101 : 0 ≤ m92.1 23 ∧ m92.1 23 ≤ 200 := hm94.1 23
                  have h102 : m92.1 24 = mL1.1 24 := hc95.1 24 rfl
                  have h103 : 0 ≤ m92.1 24 ∧ m92.1 24 ≤ 10 := hm94.1 24
                  have cT : m92.2.1 64 = m.2.1 64 := (hc95.2.1 64 rfl).trans bT
                  have cN : m92.1 23 = m.1 23 := (hc95.1 23 rfl).trans bN
                  have d24 : m92.1 24 = mL1.1 24 := hc95.1 24 rfl
                  have d34 : m92.1 34 = mL1.1 34 := hc95.1 34 rfl
                  have d35 : m92.1 35 = mL1.1 35 := hc95.1 35 rfl
                  have d36 : m92.1 36 = mL1.1 36 := hc95.1 36 rfl
                  have d65 : m92.2.1 65 = mL1.2.1 65 := hc95.2.1 65 rfl
                  have htk2 : tk m92 (EP (m.2.1 64) (m.1 23) e) := by unfold tk; rw [cT, cN, ← q31]; have h0 := p96; have h1 := p97; have h2 := p98; rw [bT, bN] at h0 h1 h2; exact ⟨by omega, h0, h1, h2⟩
                  refine g_aload_n (n := 0) rfl rfl ?_
                  have h104 : 0 ≤ m92.1 34 ∧ m92.1 34 ≤ 6 := hm94.1 34
                  have h105 : m92.1 34 = mL1.1 34 := hc95.1 34 rfl
                  have h106 : 0 ≤ m92.1 35 ∧ m92.1 35 ≤ 10 := hm94.1 35
                  have h107 : m92.1 35 = mL1.1 35 := hc95.1 35 rfl
                  have h108 : 0 ≤ m92.1 36 ∧ m92.1 36 ≤ 63 := hm94.1 36
                  have h109 : m92.1 36 = mL1.1 36 := hc95.1 36 rfl
                  refine c_vI (i := 61) (ps := []) (r := []) (as := [vR 61]) (cs' := 0) (sl' := 0) rfl rfl rfl rfl rfl rfl (kl_61 _) (d_readsLine (d := d - 1) (q := q - (2 + 19)) (by omega) (by omega) hm94  htk2 (show m92.1 24 ≤ 9 by omega) (show 2 ≤ m92.1 34 by omega) (show pcn (m92.1 36) ≤ 4 by rw [d36]; exact i4)) (by omega) (show 2 + 19 ≤ q by omega) (Nat.le_of_ble_eq_true rfl) (Nat.le_of_ble_eq_true rfl) rfl rfl rfl ?_
                  rintro z110 m111 ⟨hm113, hc114, p115⟩
                  have hf116 : fr [24, 31, 32, 33, 34, 35, 36] [65] m m111 := fr_tr hf99 (fr_le hc114 rfl rfl)
                  have h117 : m111.1 23 = m92.1 23 := hc114.1 23 rfl
                  have h118 : 0 ≤ m111.1 23 ∧ m111.1 23 ≤ 200 := hm113.1 23
                  have h0 := p115
                  rw [cT, cN] at h0
                  clear p115
                  have ek : Int.toNat (10 - mL1.1 24) = Int.toNat (9 - mL1.1 24) + 1 := by omega
                  rw [ek, RD_s, ← d34, ← d35, ← d36] at hA2
                  refine g_istore_n (n := 1) (lo' := [(0, vR 61)]) rfl rfl ?_
                  refine g_iload_n (n := 1) rfl rfl ?_
                  refine g_if_ne (by omega) (by omega) rfl ?_ ?_
                  · intro kk119
                    obtain ⟨-, k1, k2, k3, k4_, k5, k6, k7, k8, k9, k10⟩ := h0.resolve_right (fun h => by omega)
                    clear h0
                    have hst := VR_step (show 0 ≤ m92.1 24 by omega) k9 (by rw [d65, d24]; exact iV) (by rw [d65, d24, iF, d34, d35, d36]) k7 k8
                    rw [← k3] at hst
                    have hrk := rw1_ok k7 (show pcn (m92.1 36) ≤ 4 by rw [d36]; exact i4) (show 0 ≤ m92.1 36 ∧ m92.1 36 ≤ 63 by omega) (show 2 ≤ m92.1 34 by omega) k8
                    have hF9 : FD (m92.2.1 65) (Int.toNat (m92.1 24)) (m.1 25, m.1 26, m.1 28) = (m92.1 34, m92.1 35, m92.1 36) := (by rw [d65, d24, iF, d34, d35, d36])
                    have hFY : ∀ y : kY, (FY (m111.2.1 65) (Int.toNat (m111.1 24)) (m.1 25, m.1 26, m.1 28) y) = LY (m.2.1 64) (m.1 23) (EP (m.2.1 64) (m.1 23) e) (m92.1 34) (m92.1 35) (FY (m92.2.1 65) (Int.toNat (m92.1 24)) (m.1 25, m.1 26, m.1 28) y) := fun y => by rw [k3, FY_step (show 0 ≤ m92.1 24 by omega) k9 hF9]; exact k10 _
                    have hTn : ∃ e : Int, tk m111 e ∧ AF (RD (m.2.1 64) (m.1 23) (Int.toNat (10 - m111.1 24))) (m.2.1 64) (m.1 23) (Int.toNat (10 - m111.1 24)) e (m111.1 34) (m111.1 35) (m111.1 36) = (RD (m.2.1 64) (m.1 23) 10 0 (m.1 25) (m.1 26) (m.1 28)) ∧ ∀ y : kY, AG (RG (m.2.1 64) (m.1 23) (Int.toNat (10 - m111.1 24))) (m.2.1 64) (m.1 23) (Int.toNat (10 - m111.1 24)) e (m111.1 34) (m111.1 35) (m111.1 36) (FY (m111.2.1 65) (Int.toNat (m111.1 24)) (m.1 25, m.1 26, m.1 28) y) = RG (m.2.1 64) (m.1 23) 10 0 (m.1 25) (m.1 26) (m.1 28) y := by
                      refine ⟨_, k2, ?_, fun y => ?_⟩
                      rotate_left
                      · have hB2 := hAG y
                        unfold AG at hB2
                        rw [← q8, if_neg (show ¬ (mL1.1 32 = m.1 23) by omega), if_neg (show ¬ (m.2.1 64 (mL1.1 32) ≠ 59 ∨ Int.toNat (10 - mL1.1 24) = 0) from fun h => h.elim (fun h => h q59) (fun h => by omega)), ek, RG_s, ← d34, ← d35, ← d36, if_neg (show ¬ (LK (m.2.1 64) (m.1 23) (EP (m.2.1 64) (m.1 23) e) (m92.1 34) (m92.1 35) (m92.1 36) = 0) by omega)] at hB2
                        rw [hFY, show Int.toNat (10 - m111.1 24) = Int.toNat (9 - mL1.1 24) by omega, k4_, k5, k6, d65, d24]
                        exact hB2
                      rw [if_neg (show ¬ (LK (m.2.1 64) (m.1 23) (EP (m.2.1 64) (m.1 23) e) (m92.1 34) (m92.1 35) (m92.1 36) = 0) by omega)] at hA2
                      rw [show Int.toNat (10 - m111.1 24) = Int.toNat (9 - mL1.1 24) by omega, k4_, k5, k6]
                      exact hA2
                    refine g_goto rfl ?_
                    refine g_pick (lo' := [(0, vR 61)]) [1] rfl ?_
                    exact ih50_1 _ (by omega)  m111 hm113 hf116 hTn (by omega) hrk.1 hrk.2 hst.1 hst.2 rfl
                  · intro kk120
                    refine g_aload_n (n := 0) rfl rfl ?_
                    have h121 : 0 ≤ m111.1 32 ∧ m111.1 32 ≤ 200 := hm113.1 32
                    refine g_getf (v := vI (m111.1 32)) rfl (kl_61 _) rfl ?_
                    refine g_iret rfl rfl ?_
                    obtain ⟨-, k1, k2⟩ := h0.resolve_left (fun h => by omega)
                    rw [if_pos k1] at hA2
                    exact ⟨_, _, rfl, hm113, hf116, (by rw [← hA2]; exact k2), (fun h => by omega), by omega, by omega⟩
    exact L50_1 _  m44 hm46 hf49 hT0 (by omega) hrk.1 hrk.2 hst.1 hst.2 rfl
  · intro kk122
    refine g_aload_n (n := 0) rfl rfl ?_
    have h123 : 0 ≤ m44.1 32 ∧ m44.1 32 ≤ 200 := hm46.1 32
    refine g_getf (v := vI (m44.1 32)) rfl (kl_61 _) rfl ?_
    refine g_iret rfl rfl ?_
    obtain ⟨-, k1, k2⟩ := h0.resolve_left (fun h => by omega)
    have hz : (RD (m.2.1 64) (m.1 23) 10 0 (m.1 25) (m.1 26) (m.1 28)) = (m44.1 32, 0, 0, 0, 0) := by rw [show (10 : Nat) = 9 + 1 from rfl, RD_s, k2]; rw [a34, a35, a36] at k1; rw [a34, a35]; exact if_pos k1
    exact ⟨_, _, rfl, hm46, hf49, (by rw [hz]), (fun h => by omega), by omega, by omega⟩
