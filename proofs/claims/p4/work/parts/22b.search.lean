/-! ===== contracts: the model, its search ===== -/
def kD (m : kM) : Prop := ∀ e : Int, 0 ≤ e → e < m.1 26 → m.2.1 66 (4 * e) ≠ m.2.1 66 (4 * e + 1)
theorem kD_fr {SF SA : List Nat} {m m' : kM} (h : fr SF SA m m') (h1 : SF.contains 26 = false) (h2 : SA.contains 66 = false) (hD : kD m) : kD m' := by
  intro e a b
  rw [h.1 26 h1] at b
  rw [h.2.1 66 h2]
  exact hD e a b
theorem kD_ok {m : kM} (hm : kI m) (h : kD m) : dOk (m.2.1 66) (m.1 26) := ⟨fun j a b => hm.2 66 j a b, (hm.1 26).2, h⟩
theorem kr3_eq {f g : Int → Int} (h : ∀ j : Int, 24 ≤ j → j < 31 → f j = g j) : kr3 f = kr3 g := kS_ext (h 24 (by omega) (by omega)) (h 25 (by omega) (by omega)) (h 26 (by omega) (by omega)) (h 27 (by omega) (by omega)) (h 28 (by omega) (by omega)) (h 29 (by omega) (by omega)) (h 30 (by omega) (by omega))
theorem kr5_eq {f g : Int → Int} (h : ∀ j : Int, 40 ≤ j → j < 47 → f j = g j) : kr5 f = kr5 g := kS_ext (h 40 (by omega) (by omega)) (h 41 (by omega) (by omega)) (h 42 (by omega) (by omega)) (h 43 (by omega) (by omega)) (h 44 (by omega) (by omega)) (h 45 (by omega) (by omega)) (h 46 (by omega) (by omega))
theorem kr0_eq {f g : Int → Int} (h : ∀ j : Int, 0 ≤ j → j < 7 → f j = g j) : kr0 f = kr0 g := kS_ext (h 0 (by omega) (by omega)) (h 1 (by omega) (by omega)) (h 2 (by omega) (by omega)) (h 3 (by omega) (by omega)) (h 4 (by omega) (by omega)) (h 5 (by omega) (by omega)) (h 6 (by omega) (by omega))
theorem kr1_eq {f g : Int → Int} (h : ∀ j : Int, 8 ≤ j → j < 15 → f j = g j) : kr1 f = kr1 g := kS_ext (h 8 (by omega) (by omega)) (h 9 (by omega) (by omega)) (h 10 (by omega) (by omega)) (h 11 (by omega) (by omega)) (h 12 (by omega) (by omega)) (h 13 (by omega) (by omega)) (h 14 (by omega) (by omega))
theorem kr2_eq {f g : Int → Int} (h : ∀ j : Int, 16 ≤ j → j < 23 → f j = g j) : kr2 f = kr2 g := kS_ext (h 16 (by omega) (by omega)) (h 17 (by omega) (by omega)) (h 18 (by omega) (by omega)) (h 19 (by omega) (by omega)) (h 20 (by omega) (by omega)) (h 21 (by omega) (by omega)) (h 22 (by omega) (by omega))
def kK (m : kM) : Prop := kv (m.1 28) (kr0 (m.2.1 62)) ∧ (m.2.1 63 0 = 1 → kv (m.1 28) (kr1 (m.2.1 62))) ∧ (m.2.1 63 1 = 1 → kv (m.1 28) (kr2 (m.2.1 62)))
theorem kK_of {m m' : kM} (h28 : m'.1 28 = m.1 28) (h63 : m'.2.1 63 = m.2.1 63) (h62 : ∀ j : Int, j < 24 → m'.2.1 62 j = m.2.1 62 j) (h : kK m) : kK m' := by
  unfold kK
  rw [h28, h63, kr0_eq (fun j _ b => h62 j (by omega)), kr1_eq (fun j _ b => h62 j (by omega)), kr2_eq (fun j _ b => h62 j (by omega))]
  exact h
theorem kK_fr {SF SA : List Nat} {m m' : kM} (h : fr SF SA m m') (h1 : SF.contains 28 = false) (h2 : SA.contains 62 = false) (h3 : SA.contains 63 = false) (hK : kK m) : kK m' := kK_of (h.1 28 h1) (h.2.1 63 h3) (fun j _ => by rw [h.2.1 62 h2]) hK
theorem bB_keep {D : Int → Int} {n kit t v : Int} {x0 y : kS} {dp W : Int → Int} {N k c p : Int} (h : bB D n kit t x0 dp W N k c) (hd : dp (num t y) = -1) (p0 : 0 ≤ p) (p1 : p < N) : up dp (num t y) v (up W N (num t y) p) = dp (W p) := by
  rw [up_ne W (by omega)]
  refine up_ne dp (fun e => ?_)
  have := (h.2.1 p p0 p1).2.2.1
  rw [e] at this
  omega
theorem kv_soap {t a b u v K H s s' : Int} (h : kv t (a, b, u, v, K, H, s)) (h0 : 0 ≤ s') (h1 : s' ≤ 3) : kv t (a, b, u, v, K, H, s') := by
  obtain ⟨hw, ⟨c, hc⟩, hh⟩ := h
  refine ⟨?_, ?_, hh⟩
  · unfold kw at hw ⊢
    dsimp only at hw ⊢
    omega
  · rcases hc with ⟨h2, rfl⟩ | ⟨a', b', v', H', s2, hv, e, _⟩ | ⟨a', b', u', H', s2, hv, e, _⟩
    · exact ⟨_, Or.inl ⟨h2, rfl⟩⟩
    · injection e with e1 e
      injection e with e2 e
      injection e with e3 e
      injection e with e4 e
      injection e with e5 e
      injection e with e6 e
      exact ⟨_, Or.inr (Or.inl ⟨a', b', v', H', s', hv, by rw [e1, e2, e3, e4, e5, e6], rfl⟩)⟩
    · injection e with e1 e
      injection e with e2 e
      injection e with e3 e
      injection e with e4 e
      injection e with e5 e
      injection e with e6 e
      exact ⟨_, Or.inr (Or.inr ⟨a', b', u', H', s', hv, by rw [e1, e2, e3, e4, e5, e6], rfl⟩)⟩
theorem d_open {V : cg_V} {d q : Nat} (hd : 4 ≤ d) (hq : 100 ≤ q) {m : kM} (hm : kI m) {n : Int} (h_n : 0 ≤ n ∧ n ≤ 64511) (h_k4 : k4 m) (h_kD : kD m) {k : Int} {x0 : kS} (hk : 0 ≤ k ∧ k < m.1 37) (hnk : n = m.2.1 69 k) (hu : kr3 (m.2.1 62) = unn (m.1 28) n) (hB : bB (m.2.1 66) (m.1 26) (m.1 27) (m.1 28) x0 (m.2.1 68) (m.2.1 69) (m.1 37) k 0) : cg_S V d q mX10_open [vR 61, vI n] (kl m) (R_V (fun m' => (kI m') ∧ (fr [37] [62, 68, 69] m m') ∧ (bB (m.2.1 66) (m.1 26) (m.1 27) (m.1 28) x0 (m'.2.1 68) (m'.2.1 69) (m'.1 37) k 100) ∧ (m.1 37 ≤ m'.1 37) ∧ (∀ p : Int, 0 ≤ p → p < m.1 37 → m'.2.1 69 p = m.2.1 69 p) ∧ (∀ j : Int, (j < 32 ∨ 40 ≤ j) → m'.2.1 62 j = m.2.1 62 j))) := by
  have hf0 : fr [37] [62, 68, 69] m m := fr_rf m
  refine cg_of (List.mem_of_getElem? (show ae_MT[162]? = some mX10_open from rfl)) (Nat.le_of_ble_eq_true rfl) ?_
  show cg_G V mX10_open d q _ 0 [(0, vR 61), (1, vI n)] [] (kl m) 0 0
  have h1 : 0 ≤ m.1 26 ∧ m.1 26 ≤ 10 := hm.1 26
  have h2 : 0 ≤ m.1 27 ∧ m.1 27 ≤ 5 := hm.1 27
  have h3 : 0 ≤ m.1 28 ∧ m.1 28 ≤ 63 := hm.1 28
  have h4 : 0 ≤ m.1 37 ∧ m.1 37 ≤ 64512 := hm.1 37
  have w28 : 0 ≤ m.1 28 ∧ m.1 28 ≤ 63 := hm.1 28
  have hdk := hB.2.1 k hk.1 hk.2
  rw [← hnk] at hdk
  have hN := hB.1
  refine g_aload_n (n := 0) rfl rfl ?_
  refine g_getf (v := vR 68) rfl (kl_61 _) rfl ?_
  refine g_iload_n (n := 1) rfl rfl ?_
  have h5 : (-2147483648) ≤ m.2.1 68 n ∧ m.2.1 68 n ≤ 2147483647 := hm.2 68 n (by omega) (show n < (64512 : Int) by omega)
  refine g_iald (f := m.2.1 68) rfl (kl_68 _) (by decide) (by omega) (by omega) ?_
  refine g_iconst rfl ?_
  refine g_iadd rfl ?_
  refine g_nrm ?_
  intro z6 h7 h8 h9 h10
  refine g_istore_n (n := 2) (lo' := [(0, vR 61), (1, vI n)]) rfl rfl ?_
  refine g_iconst rfl ?_
  refine g_istore_n (n := 3) (lo' := [(2, vI z6), (0, vR 61), (1, vI n)]) rfl rfl ?_
  have L11_1 : ∀ (n11_1 : Nat) (c_1 : Int) (mL1 : kM), (kI mL1) → (fr [37] [62, 68, 69] m mL1) → (0 ≤ c_1 ∧ c_1 ≤ 100) → (bB (m.2.1 66) (m.1 26) (m.1 27) (m.1 28) x0 (mL1.2.1 68) (mL1.2.1 69) (mL1.1 37) k c_1) → (m.1 37 ≤ mL1.1 37) → (∀ p : Int, 0 ≤ p → p < m.1 37 → mL1.2.1 69 p = m.2.1 69 p) → (∀ j : Int, (j < 32 ∨ 40 ≤ j) → mL1.2.1 62 j = m.2.1 62 j) → (z6 = mL1.2.1 68 (mL1.2.1 69 k) + 1) → (kr3 (mL1.2.1 62) = unn (m.1 28) n) → (k4 mL1) → (kD mL1) → ((100 - c_1).toNat) = n11_1 → cg_G V mX10_open d q (R_V (fun m' => (kI m') ∧ (fr [37] [62, 68, 69] m m') ∧ (bB (m.2.1 66) (m.1 26) (m.1 27) (m.1 28) x0 (m'.2.1 68) (m'.2.1 69) (m'.1 37) k 100) ∧ (m.1 37 ≤ m'.1 37) ∧ (∀ p : Int, 0 ≤ p → p < m.1 37 → m'.2.1 69 p = m.2.1 69 p) ∧ (∀ j : Int, (j < 32 ∨ 40 ≤ j) → m'.2.1 62 j = m.2.1 62 j))) 11 [(3, vI c_1), (2, vI z6), (0, vR 61), (1, vI n)] [] (kl mL1) 0 0 := by
    intro n11_1
    induction n11_1 using Nat.strongRecOn with
    | _ n11_1 ih11_1 =>
      intro c_1 mL1 hmL1 hfL1 i11 iB iN iW iR iL iU i4 iD q12
      refine g_iload_n (n := 3) rfl rfl ?_
      refine g_bipush (by decide) rfl ?_
      refine g_icmp_ge (by omega) (by omega) (by decide) (by decide) rfl ?_ ?_
      · intro k13
        refine g_vret rfl rfl ?_
        exact ⟨_, rfl, hmL1, hfL1, (by have e9 : c_1 = 100 := (by omega); rw [← e9]; exact iB), iN, iW, iR⟩
      · intro k14
        refine g_aload_n (n := 0) rfl rfl ?_
        refine g_iload_n (n := 3) rfl rfl ?_
        have h15 : 0 ≤ mL1.1 26 ∧ mL1.1 26 ≤ 10 := hmL1.1 26
        have h16 : mL1.1 26 = m.1 26 := hfL1.1 26 rfl
        have h17 : 0 ≤ mL1.1 27 ∧ mL1.1 27 ≤ 5 := hmL1.1 27
        have h18 : mL1.1 27 = m.1 27 := hfL1.1 27 rfl
        refine c_vI (i := 61) (ps := [vI c_1]) (r := []) (as := [vR 61, vI c_1]) (cs' := 0) (sl' := 0) rfl rfl rfl rfl rfl rfl (kl_61 _) (d_tries (d := d - 1) (q := q - (2 + 19)) (by omega) (by omega) hmL1 (c := c_1) (show 0 ≤ c_1 ∧ c_1 ≤ 99 by omega) (by rw [iU]; exact (kv_unn w28.1 w28.2 h_n.1 h_n.2).1)) (by omega) (show 2 + 19 ≤ q by omega) (Nat.le_of_ble_eq_true rfl) (Nat.le_of_ble_eq_true rfl) rfl rfl rfl ?_
        rintro z19 m20 ⟨hm22, hc23, p24, p25⟩
        have hf26 : fr [37] [62, 68, 69] m m20 := fr_tr hfL1 (fr_le hc23 rfl rfl)
        have h27 : m20.1 26 = mL1.1 26 := hc23.1 26 rfl
        have h28 : 0 ≤ m20.1 26 ∧ m20.1 26 ≤ 10 := hm22.1 26
        have h29 : m20.1 27 = mL1.1 27 := hc23.1 27 rfl
        have h30 : 0 ≤ m20.1 27 ∧ m20.1 27 ≤ 5 := hm22.1 27
        have t31 : k4 m20 := k4_fr hc23 rfl rfl i4
        have t32 : kD m20 := kD_fr hc23 rfl rfl iD
        refine g_if_eq (by omega) (by omega) rfl ?_ ?_
        · intro k33
          have hRn : ∀ j : Int, (j < 32 ∨ 40 ≤ j) → m20.2.1 62 j = m.2.1 62 j := fun j hj => (p25 j hj).trans (iR j hj)
          have hUn : kr3 (m20.2.1 62) = unn (m.1 28) n := (kr3_eq (fun j a b => p25 j (by omega))).trans iU
          have e68 : m20.2.1 68 = mL1.2.1 68 := hc23.2.1 68 rfl
          have e69 : m20.2.1 69 = mL1.2.1 69 := hc23.2.1 69 rfl
          have e37 : m20.1 37 = mL1.1 37 := hc23.1 37 rfl
          have hWn : ∀ p : Int, 0 ≤ p → p < m.1 37 → m20.2.1 69 p = m.2.1 69 p := fun p a b => by rw [e69]; exact iW p a b
          have hNn : m.1 37 ≤ m20.1 37 := by omega
          have hLn : z6 = m20.2.1 68 (m20.2.1 69 k) + 1 := by rw [e68, e69]; exact iL
          have hBn : bB (m.2.1 66) (m.1 26) (m.1 27) (m.1 28) x0 (m20.2.1 68) (m20.2.1 69) (m20.1 37) k (c_1 + 1) := by
            rw [e68, e69, e37]
            refine bB_skip iB ?_
            rw [(iW k hk.1 hk.2).trans hnk.symm, ← iU, ← hfL1.2.1 66 rfl, ← hfL1.1 26 rfl, ← hfL1.1 27 rfl]
            exact (p24.resolve_left (by omega)).2
          refine g_iinc (n := 3) (lo' := [(2, vI z6), (0, vR 61), (1, vI n)]) rfl rfl rfl ?_
          refine g_goto rfl ?_
          exact ih11_1 _ (by omega) (c_1 + 1) m20 hm22 hf26 (by omega) hBn hNn hWn hRn hLn hUn t31 t32 rfl
        · intro k34
          have q66 : mL1.2.1 66 = m.2.1 66 := hfL1.2.1 66 rfl
          have q26 : mL1.1 26 = m.1 26 := hfL1.1 26 rfl
          have q27 : mL1.1 27 = m.1 27 := hfL1.1 27 rfl
          have q28 : m20.1 28 = m.1 28 := (hc23.1 28 rfl).trans (hfL1.1 28 rfl)
          have hnn : mL1.2.1 69 k = n := (iW k hk.1 hk.2).trans hnk.symm
          have hs : stp (m.2.1 66) (m.1 26) (m.1 27) (unn (m.1 28) (mL1.2.1 69 k)) c_1 = some (kr4 (m20.2.1 62)) := by rw [hnn, ← iU, ← q66, ← q26, ← q27]; exact (p24.resolve_right (by omega)).2
          have hkv : kv (m.1 28) (kr4 (m20.2.1 62)) := kv_stp w28.1 w28.2 (kD_ok hm h_kD) (by omega) (by omega) hs (by rw [hnn]; exact kv_unn w28.1 w28.2 h_n.1 h_n.2)
          have hun := unn_num w28.1 w28.2 h_k4 hkv
          refine g_aload_n (n := 0) rfl rfl ?_
          refine g_iconst rfl ?_
          have h35 : 0 ≤ m20.1 28 ∧ m20.1 28 ≤ 63 := hm22.1 28
          have h36 : m20.1 28 = mL1.1 28 := hc23.1 28 rfl
          refine c_vI (i := 61) (ps := [vI 4]) (r := []) (as := [vR 61, vI 4]) (cs' := 0) (sl' := 0) rfl rfl rfl rfl rfl rfl (kl_61 _) (d_numberOf_4 (d := d - 1) (q := q - (6 + 19)) (by omega) (by omega) hm22  t31 hkv.1) (by omega) (show 6 + 19 ≤ q by omega) (Nat.le_of_ble_eq_true rfl) (Nat.le_of_ble_eq_true rfl) rfl rfl rfl ?_
          rintro z37 m38 ⟨rfl, p40, p41, p42⟩
          have h43 : z37 = (num (m20.1 28) (kr4 (m20.2.1 62))) := p40
          subst h43
          refine g_istore (n := 4) (lo' := [(3, vI c_1), (2, vI z6), (0, vR 61), (1, vI n)]) rfl rfl ?_
          refine g_aload_n (n := 0) rfl rfl ?_
          refine g_getf (v := vR 68) rfl (kl_61 _) rfl ?_
          refine g_iload (n := 4) rfl rfl ?_
          have h44 : (-2147483648) ≤ m20.2.1 68 (num (m20.1 28) (kr4 (m20.2.1 62))) ∧ m20.2.1 68 (num (m20.1 28) (kr4 (m20.2.1 62))) ≤ 2147483647 := hm22.2 68 (num (m20.1 28) (kr4 (m20.2.1 62))) (by omega) (show (num (m20.1 28) (kr4 (m20.2.1 62))) < (64512 : Int) by omega)
          have h45 : m20.2.1 68 (num (m20.1 28) (kr4 (m20.2.1 62))) = mL1.2.1 68 (num (m20.1 28) (kr4 (m20.2.1 62))) := congrFun (hc23.2.1 68 rfl) _
          refine g_iald (f := m20.2.1 68) rfl (kl_68 _) (by decide) (by omega) (by omega) ?_
          refine g_iconst rfl ?_
          refine g_icmp_ne (by omega) (by omega) (by decide) (by decide) rfl ?_ ?_
          · intro k46
            have hRn : ∀ j : Int, (j < 32 ∨ 40 ≤ j) → m20.2.1 62 j = m.2.1 62 j := fun j hj => (p25 j hj).trans (iR j hj)
            have hUn : kr3 (m20.2.1 62) = unn (m.1 28) n := (kr3_eq (fun j a b => p25 j (by omega))).trans iU
            have e68 : m20.2.1 68 = mL1.2.1 68 := hc23.2.1 68 rfl
            have e69 : m20.2.1 69 = mL1.2.1 69 := hc23.2.1 69 rfl
            have e37 : m20.1 37 = mL1.1 37 := hc23.1 37 rfl
            have hWn : ∀ p : Int, 0 ≤ p → p < m.1 37 → m20.2.1 69 p = m.2.1 69 p := fun p a b => by rw [e69]; exact iW p a b
            have hNn : m.1 37 ≤ m20.1 37 := by omega
            have hLn : z6 = m20.2.1 68 (m20.2.1 69 k) + 1 := by rw [e68, e69]; exact iL
            have hBn : bB (m.2.1 66) (m.1 26) (m.1 27) (m.1 28) x0 (m20.2.1 68) (m20.2.1 69) (m20.1 37) k (c_1 + 1) := by
              rw [e68, e69, e37]
              exact bB_old iB (by omega) hs hun.2.1 hun.2.2 (by rw [← e68, ← q28]; omega)
            refine g_iinc (n := 3) (lo' := [(4, vI (num (m20.1 28) (kr4 (m20.2.1 62)))), (2, vI z6), (0, vR 61), (1, vI n)]) rfl rfl rfl ?_
            refine g_goto rfl ?_
            refine g_pick (lo' := [(3, vI (c_1 + 1)), (2, vI z6), (0, vR 61), (1, vI n)]) [0, 2, 3, 4] rfl ?_
            exact ih11_1 _ (by omega) (c_1 + 1) m20 hm22 hf26 (by omega) hBn hNn hWn hRn hLn hUn t31 t32 rfl
          · intro k47
            have hdn : mL1.2.1 68 (num (m.1 28) (kr4 (m20.2.1 62))) = -1 := by rw [← hc23.2.1 68 rfl, ← q28]; omega
            have hrm : m20.1 37 < 64512 := by rw [hc23.1 37 rfl]; exact bB_room iB hun.2.1 hun.2.2 hdn
            refine g_aload_n (n := 0) rfl rfl ?_
            refine g_getf (v := vR 68) rfl (kl_61 _) rfl ?_
            refine g_iload (n := 4) rfl rfl ?_
            refine g_iload_n (n := 2) rfl rfl ?_
            refine g_iAst (f := m20.2.1 68) (m' := (kA m20 68 (up (m20.2.1 68) (num (m20.1 28) (kr4 (m20.2.1 62))) z6))) rfl (kl_68 _) (by decide) (by omega) (by omega) (kA_68 _ _) ?_
            have hm48 : kI (kA m20 68 (up (m20.2.1 68) (num (m20.1 28) (kr4 (m20.2.1 62))) z6)) := kI_U hm22 68 rfl (show ((-2147483648) : Int) ≤ z6 by omega) (show z6 ≤ (2147483647 : Int) by omega)
            have hf49 : fr [37] [62, 68, 69] m (kA m20 68 (up (m20.2.1 68) (num (m20.1 28) (kr4 (m20.2.1 62))) z6)) := fr_A hf26 68 _ rfl
            refine g_aload_n (n := 0) rfl rfl ?_
            refine g_getf (v := vR 69) rfl (kl_61 _) rfl ?_
            refine g_aload_n (n := 0) rfl rfl ?_
            have h50 : 0 ≤ m20.1 37 ∧ m20.1 37 ≤ 64512 := hm22.1 37
            have h51 : m20.1 37 = mL1.1 37 := hc23.1 37 rfl
            refine g_getf (v := vI (m20.1 37)) rfl (kl_61 _) rfl ?_
            refine g_iload (n := 4) rfl rfl ?_
            refine g_iAst (f := m20.2.1 69) (m' := (kA (kA m20 68 (up (m20.2.1 68) (num (m20.1 28) (kr4 (m20.2.1 62))) z6)) 69 (up (m20.2.1 69) (m20.1 37) (num (m20.1 28) (kr4 (m20.2.1 62)))))) rfl (kl_69 _) (by decide) (by omega) (by omega) (kA_69 _ _) ?_
            have hm52 : kI (kA (kA m20 68 (up (m20.2.1 68) (num (m20.1 28) (kr4 (m20.2.1 62))) z6)) 69 (up (m20.2.1 69) (m20.1 37) (num (m20.1 28) (kr4 (m20.2.1 62))))) := kI_U hm48 69 rfl (show (0 : Int) ≤ (num (m20.1 28) (kr4 (m20.2.1 62))) by omega) (show (num (m20.1 28) (kr4 (m20.2.1 62))) ≤ (64511 : Int) by omega)
            have hf53 : fr [37] [62, 68, 69] m (kA (kA m20 68 (up (m20.2.1 68) (num (m20.1 28) (kr4 (m20.2.1 62))) z6)) 69 (up (m20.2.1 69) (m20.1 37) (num (m20.1 28) (kr4 (m20.2.1 62))))) := fr_A hf49 69 _ rfl
            refine g_aload_n (n := 0) rfl rfl ?_
            refine g_dup rfl rfl ?_
            refine g_getf (v := vI (m20.1 37)) rfl (kl_61 _) rfl ?_
            refine g_iconst rfl ?_
            refine g_iadd rfl ?_
            refine g_putF (m' := (kF (kA (kA m20 68 (up (m20.2.1 68) (num (m20.1 28) (kr4 (m20.2.1 62))) z6)) 69 (up (m20.2.1 69) (m20.1 37) (num (m20.1 28) (kr4 (m20.2.1 62))))) 37 (m20.1 37 + 1))) rfl (kl_61 _) rfl rfl rfl rfl (kF_37 _ _) ?_
            have hm54 : kI (kF (kA (kA m20 68 (up (m20.2.1 68) (num (m20.1 28) (kr4 (m20.2.1 62))) z6)) 69 (up (m20.2.1 69) (m20.1 37) (num (m20.1 28) (kr4 (m20.2.1 62))))) 37 (m20.1 37 + 1)) := kI_F hm52 37 (show (0 : Int) ≤ (m20.1 37 + 1) by omega) (show (m20.1 37 + 1) ≤ (64512 : Int) by omega)
            have hf55 : fr [37] [62, 68, 69] m (kF (kA (kA m20 68 (up (m20.2.1 68) (num (m20.1 28) (kr4 (m20.2.1 62))) z6)) 69 (up (m20.2.1 69) (m20.1 37) (num (m20.1 28) (kr4 (m20.2.1 62))))) 37 (m20.1 37 + 1)) := fr_F hf53 37 _ rfl
            have hRn : ∀ j : Int, (j < 32 ∨ 40 ≤ j) → (kF (kA (kA m20 68 (up (m20.2.1 68) (num (m20.1 28) (kr4 (m20.2.1 62))) z6)) 69 (up (m20.2.1 69) (m20.1 37) (num (m20.1 28) (kr4 (m20.2.1 62))))) 37 (m20.1 37 + 1)).2.1 62 j = m.2.1 62 j := fun j hj => (p25 j hj).trans (iR j hj)
            have hUn : kr3 ((kF (kA (kA m20 68 (up (m20.2.1 68) (num (m20.1 28) (kr4 (m20.2.1 62))) z6)) 69 (up (m20.2.1 69) (m20.1 37) (num (m20.1 28) (kr4 (m20.2.1 62))))) 37 (m20.1 37 + 1)).2.1 62) = unn (m.1 28) n := (kr3_eq (fun j a b => p25 j (by omega))).trans iU
            have e68 : m20.2.1 68 = mL1.2.1 68 := hc23.2.1 68 rfl
            have e69 : m20.2.1 69 = mL1.2.1 69 := hc23.2.1 69 rfl
            have e37 : m20.1 37 = mL1.1 37 := hc23.1 37 rfl
            have hBn : bB (m.2.1 66) (m.1 26) (m.1 27) (m.1 28) x0 ((kF (kA (kA m20 68 (up (m20.2.1 68) (num (m20.1 28) (kr4 (m20.2.1 62))) z6)) 69 (up (m20.2.1 69) (m20.1 37) (num (m20.1 28) (kr4 (m20.2.1 62))))) 37 (m20.1 37 + 1)).2.1 68) ((kF (kA (kA m20 68 (up (m20.2.1 68) (num (m20.1 28) (kr4 (m20.2.1 62))) z6)) 69 (up (m20.2.1 69) (m20.1 37) (num (m20.1 28) (kr4 (m20.2.1 62))))) 37 (m20.1 37 + 1)).2.1 69) ((kF (kA (kA m20 68 (up (m20.2.1 68) (num (m20.1 28) (kr4 (m20.2.1 62))) z6)) 69 (up (m20.2.1 69) (m20.1 37) (num (m20.1 28) (kr4 (m20.2.1 62))))) 37 (m20.1 37 + 1)).1 37) k (c_1 + 1) := by
              show bB (m.2.1 66) (m.1 26) (m.1 27) (m.1 28) x0 (up (m20.2.1 68) (num (m20.1 28) (kr4 (m20.2.1 62))) z6) (up (m20.2.1 69) (m20.1 37) (num (m20.1 28) (kr4 (m20.2.1 62)))) (m20.1 37 + 1) k (c_1 + 1)
              rw [e68, e69, e37, q28, iL]
              exact bB_new iB (by omega) (by omega) (by omega) hs hun.2.1 hun.2.2 hun.1 hdn
            have hWn : ∀ p : Int, 0 ≤ p → p < m.1 37 → (kF (kA (kA m20 68 (up (m20.2.1 68) (num (m20.1 28) (kr4 (m20.2.1 62))) z6)) 69 (up (m20.2.1 69) (m20.1 37) (num (m20.1 28) (kr4 (m20.2.1 62))))) 37 (m20.1 37 + 1)).2.1 69 p = m.2.1 69 p := fun p a b => by show up (m20.2.1 69) (m20.1 37) (num (m20.1 28) (kr4 (m20.2.1 62))) p = _; rw [up_ne _ (by omega), e69]; exact iW p a b
            have hNn : m.1 37 ≤ (kF (kA (kA m20 68 (up (m20.2.1 68) (num (m20.1 28) (kr4 (m20.2.1 62))) z6)) 69 (up (m20.2.1 69) (m20.1 37) (num (m20.1 28) (kr4 (m20.2.1 62))))) 37 (m20.1 37 + 1)).1 37 := by show m.1 37 ≤ m20.1 37 + 1; omega
            have hLn : z6 = (kF (kA (kA m20 68 (up (m20.2.1 68) (num (m20.1 28) (kr4 (m20.2.1 62))) z6)) 69 (up (m20.2.1 69) (m20.1 37) (num (m20.1 28) (kr4 (m20.2.1 62))))) 37 (m20.1 37 + 1)).2.1 68 ((kF (kA (kA m20 68 (up (m20.2.1 68) (num (m20.1 28) (kr4 (m20.2.1 62))) z6)) 69 (up (m20.2.1 69) (m20.1 37) (num (m20.1 28) (kr4 (m20.2.1 62))))) 37 (m20.1 37 + 1)).2.1 69 k) + 1 := by
              show z6 = up (m20.2.1 68) (num (m20.1 28) (kr4 (m20.2.1 62))) z6 (up (m20.2.1 69) (m20.1 37) (num (m20.1 28) (kr4 (m20.2.1 62))) k) + 1
              rw [e68, e69, e37, q28, bB_keep iB hdn hk.1 (by omega)]
              exact iL
            refine g_iinc (n := 3) (lo' := [(4, vI (num (m20.1 28) (kr4 (m20.2.1 62)))), (2, vI z6), (0, vR 61), (1, vI n)]) rfl rfl rfl ?_
            refine g_goto rfl ?_
            refine g_pick (lo' := [(3, vI (c_1 + 1)), (2, vI z6), (0, vR 61), (1, vI n)]) [0, 2, 3, 4] rfl ?_
            exact ih11_1 _ (by omega) (c_1 + 1) (kF (kA (kA m20 68 (up (m20.2.1 68) (num (m20.1 28) (kr4 (m20.2.1 62))) z6)) 69 (up (m20.2.1 69) (m20.1 37) (num (m20.1 28) (kr4 (m20.2.1 62))))) 37 (m20.1 37 + 1)) hm54 hf55 (by omega) hBn hNn hWn hRn hLn hUn t31 t32 rfl
  exact L11_1 _ 0 m hm hf0 (by omega) hB (by omega) (fun _ _ _ => rfl) (fun _ _ => rfl) (by rw [← hnk]; omega) hu h_k4 h_kD rfl
